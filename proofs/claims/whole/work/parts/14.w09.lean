/-! PlantServerModel.link -/
theorem dX7_link_0 : decode cX7_link 0 = .ok (.aload_n 0, 1) := by decide +kernel
theorem dX7_link_1 : decode cX7_link 1 = .ok (.aload_n 0, 1) := by decide +kernel
theorem dX7_link_2 : decode cX7_link 2 = .ok (.iload_n 1, 1) := by decide +kernel
theorem dX7_link_3 : decode cX7_link 3 = .ok (.invokevirtual 132, 3) := by decide +kernel
theorem dX7_link_6 : decode cX7_link 6 = .ok (.ifCond .eq 11, 3) := by decide +kernel
theorem dX7_link_9 : decode cX7_link 9 = .ok (.aload_n 0, 1) := by decide +kernel
theorem dX7_link_10 : decode cX7_link 10 = .ok (.iload_n 2, 1) := by decide +kernel
theorem dX7_link_11 : decode cX7_link 11 = .ok (.invokevirtual 132, 3) := by decide +kernel
theorem dX7_link_14 : decode cX7_link 14 = .ok (.ifCond .ne 7, 3) := by decide +kernel
theorem dX7_link_17 : decode cX7_link 17 = .ok (.iconst 1, 1) := by decide +kernel
theorem dX7_link_18 : decode cX7_link 18 = .ok (.goto 28, 3) := by decide +kernel
theorem dX7_link_21 : decode cX7_link 21 = .ok (.iload_n 1, 1) := by decide +kernel
theorem dX7_link_22 : decode cX7_link 22 = .ok (.iload_n 2, 1) := by decide +kernel
theorem dX7_link_23 : decode cX7_link 23 = .ok (.if_icmp .eq 18, 3) := by decide +kernel
theorem dX7_link_26 : decode cX7_link 26 = .ok (.aload_n 0, 1) := by decide +kernel
theorem dX7_link_27 : decode cX7_link 27 = .ok (.getfield 47, 3) := by decide +kernel
theorem dX7_link_30 : decode cX7_link 30 = .ok (.iload_n 1, 1) := by decide +kernel
theorem dX7_link_31 : decode cX7_link 31 = .ok (.iaload, 1) := by decide +kernel
theorem dX7_link_32 : decode cX7_link 32 = .ok (.aload_n 0, 1) := by decide +kernel
theorem dX7_link_33 : decode cX7_link 33 = .ok (.getfield 47, 3) := by decide +kernel
theorem dX7_link_36 : decode cX7_link 36 = .ok (.iload_n 2, 1) := by decide +kernel
theorem dX7_link_37 : decode cX7_link 37 = .ok (.iaload, 1) := by decide +kernel
theorem dX7_link_38 : decode cX7_link 38 = .ok (.if_icmp .eq 7, 3) := by decide +kernel
theorem dX7_link_41 : decode cX7_link 41 = .ok (.iconst 2, 1) := by decide +kernel
theorem dX7_link_42 : decode cX7_link 42 = .ok (.goto 4, 3) := by decide +kernel
theorem dX7_link_45 : decode cX7_link 45 = .ok (.iconst 0, 1) := by decide +kernel
theorem dX7_link_46 : decode cX7_link 46 = .ok (.putfield 104, 3) := by decide +kernel
theorem dX7_link_49 : decode cX7_link 49 = .ok (.aload_n 0, 1) := by decide +kernel
theorem dX7_link_50 : decode cX7_link 50 = .ok (.getfield 104, 3) := by decide +kernel
theorem dX7_link_53 : decode cX7_link 53 = .ok (.ifCond .le 5, 3) := by decide +kernel
theorem dX7_link_56 : decode cX7_link 56 = .ok (.iconst 0, 1) := by decide +kernel
theorem dX7_link_57 : decode cX7_link 57 = .ok (.ireturn, 1) := by decide +kernel
theorem dX7_link_58 : decode cX7_link 58 = .ok (.aload_n 0, 1) := by decide +kernel
theorem dX7_link_59 : decode cX7_link 59 = .ok (.getfield 71, 3) := by decide +kernel
theorem dX7_link_62 : decode cX7_link 62 = .ok (.iload_n 1, 1) := by decide +kernel
theorem dX7_link_63 : decode cX7_link 63 = .ok (.iaload, 1) := by decide +kernel
theorem dX7_link_64 : decode cX7_link 64 = .ok (.iload_n 2, 1) := by decide +kernel
theorem dX7_link_65 : decode cX7_link 65 = .ok (.ishr, 1) := by decide +kernel
theorem dX7_link_66 : decode cX7_link 66 = .ok (.iconst 1, 1) := by decide +kernel
theorem dX7_link_67 : decode cX7_link 67 = .ok (.iand, 1) := by decide +kernel
theorem dX7_link_68 : decode cX7_link 68 = .ok (.iconst 1, 1) := by decide +kernel
theorem dX7_link_69 : decode cX7_link 69 = .ok (.if_icmp .ne 7, 3) := by decide +kernel
theorem dX7_link_72 : decode cX7_link 72 = .ok (.iconst 1, 1) := by decide +kernel
theorem dX7_link_73 : decode cX7_link 73 = .ok (.goto 4, 3) := by decide +kernel
theorem dX7_link_76 : decode cX7_link 76 = .ok (.iconst 0, 1) := by decide +kernel
theorem dX7_link_77 : decode cX7_link 77 = .ok (.istore 4, 2) := by decide +kernel
theorem dX7_link_79 : decode cX7_link 79 = .ok (.aload_n 0, 1) := by decide +kernel
theorem dX7_link_80 : decode cX7_link 80 = .ok (.getfield 71, 3) := by decide +kernel
theorem dX7_link_83 : decode cX7_link 83 = .ok (.iload_n 1, 1) := by decide +kernel
theorem dX7_link_84 : decode cX7_link 84 = .ok (.iload_n 3, 1) := by decide +kernel
theorem dX7_link_85 : decode cX7_link 85 = .ok (.ifCond .eq 16, 3) := by decide +kernel
theorem dX7_link_88 : decode cX7_link 88 = .ok (.aload_n 0, 1) := by decide +kernel
theorem dX7_link_89 : decode cX7_link 89 = .ok (.getfield 71, 3) := by decide +kernel
theorem dX7_link_92 : decode cX7_link 92 = .ok (.iload_n 1, 1) := by decide +kernel
theorem dX7_link_93 : decode cX7_link 93 = .ok (.iaload, 1) := by decide +kernel
theorem dX7_link_94 : decode cX7_link 94 = .ok (.iconst 1, 1) := by decide +kernel
theorem dX7_link_95 : decode cX7_link 95 = .ok (.iload_n 2, 1) := by decide +kernel
theorem dX7_link_96 : decode cX7_link 96 = .ok (.ishl, 1) := by decide +kernel
theorem dX7_link_97 : decode cX7_link 97 = .ok (.ior, 1) := by decide +kernel
theorem dX7_link_98 : decode cX7_link 98 = .ok (.goto 15, 3) := by decide +kernel
theorem dX7_link_101 : decode cX7_link 101 = .ok (.aload_n 0, 1) := by decide +kernel
theorem dX7_link_102 : decode cX7_link 102 = .ok (.getfield 71, 3) := by decide +kernel
theorem dX7_link_105 : decode cX7_link 105 = .ok (.iload_n 1, 1) := by decide +kernel
theorem dX7_link_106 : decode cX7_link 106 = .ok (.iaload, 1) := by decide +kernel
theorem dX7_link_107 : decode cX7_link 107 = .ok (.iconst 1, 1) := by decide +kernel
theorem dX7_link_108 : decode cX7_link 108 = .ok (.iload_n 2, 1) := by decide +kernel
theorem dX7_link_109 : decode cX7_link 109 = .ok (.ishl, 1) := by decide +kernel
theorem dX7_link_110 : decode cX7_link 110 = .ok (.iconst (-1), 1) := by decide +kernel
theorem dX7_link_111 : decode cX7_link 111 = .ok (.ixor, 1) := by decide +kernel
theorem dX7_link_112 : decode cX7_link 112 = .ok (.iand, 1) := by decide +kernel
theorem dX7_link_113 : decode cX7_link 113 = .ok (.iastore, 1) := by decide +kernel
theorem dX7_link_114 : decode cX7_link 114 = .ok (.iload 4, 2) := by decide +kernel
theorem dX7_link_116 : decode cX7_link 116 = .ok (.iload_n 3, 1) := by decide +kernel
theorem dX7_link_117 : decode cX7_link 117 = .ok (.if_icmp .eq 7, 3) := by decide +kernel
theorem dX7_link_120 : decode cX7_link 120 = .ok (.iconst 1, 1) := by decide +kernel
theorem dX7_link_121 : decode cX7_link 121 = .ok (.goto 4, 3) := by decide +kernel
theorem dX7_link_124 : decode cX7_link 124 = .ok (.iconst 0, 1) := by decide +kernel
theorem dX7_link_125 : decode cX7_link 125 = .ok (.ireturn, 1) := by decide +kernel
abbrev rm7_link : Room := { frames := 2, cells := 0, slots := 0, locals := 43 }
theorem hd7_link : yX7_link.cls ≠ "java/lang/invoke/MethodHandle" ∧ yX7_link.cls ≠ "java/lang/invoke/VarHandle" ∧ (parseMethodDescriptor yX7_link.desc).map (fun d => d.parameters.length) = some 3 := by decide +kernel
set_option maxHeartbeats 4000000 in
set_option maxRecDepth 20000 in
theorem m7_link (l : Launch) (hl : l.stackTraces = false) (G : xG) (ρ : Nm → Nat) (this : Nm) (p1 : Int32) (p2 : Int32) (p3 : Int32) (σ : PH) (Q : Int32 → PH → Prop) (h : w7_link this p1 p2 p3 σ Q) : xMet l yX7_link (.code yX7_link cX7_link 5 (some .boolean)) rm7_link G ρ σ [.ref (ρ this), .int p1, .int p2, .int p3] (eI ρ Q) xNo := by
  refine xMet.of hl (by decide +kernel) (Nat.le_of_ble_eq_true rfl) (fun X hC hr hn htab h0 => ?_)
  have hC : xC G X "PlantServerModel" cX7_link 5 rm7_link := hC
  unfold w7_link at h
  refine xJ.loc (L' := [(0, .ref (ρ this)), (1, .int p1), (2, .int p2), (3, .int p3)]) rfl ?_
  refine x_aload_n hC 0 rfl dX7_link_0 ?_
  refine x_aload_n hC 0 rfl dX7_link_1 ?_
  refine x_iload_n hC 1 rfl dX7_link_2 ?_
  obtain ⟨k1, h⟩ := h
  refine x_callV (n0 := this) (as := [.int p1]) (rest := [.ref (ρ this)]) hC (ci := 7) (r := (RX7, TX7, 36)) k1 rfl (fun l hl => m7_isItem l hl G ρ this p1 σ _ h) q844 q846 s18 q3 q847 ⟨rfl, hd7_isItem⟩ (by decide) ⟨(by decide), (by decide)⟩ (by first | exact Nat.le_of_ble_eq_true rfl | (simp [rv_cat]; done) | (simp (decide := true) [rv_cat, cat_ref, cat_int]; done)) rfl dX7_link_3 (fun E σ9 hx => False.elim hx) (fun v1 σ1 ρ1 hp1 hag1 => ?_)
  obtain ⟨e9, r1, e8, h⟩ := hp1
  rw [e8, e9]
  refine xJ.nrm (k' := 0) (n' := 0) (pc' := 6) (st' := [.int r1, .ref (ρ this)]) rfl rfl rfl rfl ?_
  refine x_if_eq (tgt := 17) hC dX7_link_6 (by decide) (fun c1 => ?_) (fun c1 => ?_)
  · have h := h.1 c1
    refine x_iconst (v := 1) hC dX7_link_17 (by decide) ?_
    refine x_goto (tgt := 46) hC dX7_link_18 (by decide) ?_
    have k2 : hK σ1 this = 8 := (hag1 this (by rw [k1]; decide)).1.trans k1
    refine x_putI (n0 := this) hC (ci := 7) (T := TX7) (N := 36) (C := RX7) 0 k2 rfl rfl (by decide) rfl q689 rfl (tyX7_ok 0 (by decide)) dX7_link_46 ?_
    refine xJ.nmH (fun σ2 e1 => ?_)
    have h := h σ2 e1
    have r2 : hR σ2 = hR σ1 ∧ hL σ2 = hL σ1 := by rw [e1]; exact ⟨rfl, rfl⟩
    refine x_aload_n hC 0 rfl dX7_link_49 ?_
    have k3 : hK σ2 this = 8 := by rw [e1]; exact k2
    refine x_getI (n0 := this) hC (ci := 7) (T := TX7) (N := 36) (C := RX7) 0 k3 rfl rfl (by decide) rfl q689 dX7_link_50 ?_
    refine x_if_le (tgt := 58) hC dX7_link_53 (by decide) (fun c2 => ?_) (fun c2 => ?_)
    · have h := h.1 c2
      refine x_aload_n hC 0 rfl dX7_link_58 ?_
      refine x_getR (n0 := this) hC (ci := 7) (T := TX7) (N := 36) (C := RX7) 24 k3 rfl rfl (by decide) rfl q713 dX7_link_59 ?_
      rw [r2.1]
      refine x_iload_n hC 1 rfl dX7_link_62 ?_
      obtain ⟨m1, hm1, h⟩ := h
      rw [show rv ρ (hR σ1 this 24) = Value.ref (ρ m1) from by rw [hm1]; rfl]
      obtain ⟨k4, h⟩ := h
      obtain ⟨v2, h⟩ := h
      refine x_iald (a := m1) hC k4 (by rw [r2.2]; exact v2) dX7_link_63 ?_
      refine x_iload_n hC 2 rfl dX7_link_64 ?_
      refine x_ishr hC dX7_link_65 ?_
      refine x_iconst (v := 1) hC dX7_link_66 (by decide) ?_
      refine x_iand hC dX7_link_67 ?_
      refine x_iconst (v := 1) hC dX7_link_68 (by decide) ?_
      refine x_icmp_ne (tgt := 76) hC dX7_link_69 (by decide) (fun c3 => ?_) (fun c3 => ?_)
      · have h := h.1 c3
        refine x_iconst (v := 0) hC dX7_link_76 (by decide) ?_
        refine x_istore (L' := [(4, .int 0), (0, .ref (ρ this)), (1, .int p1), (2, .int p2), (3, .int p3)]) hC dX7_link_77 (by decide) (by first | rfl | simp (decide := true) [rv_cat, cat_ref, cat_int]) ?_
        refine x_aload_n hC 1 rfl dX7_link_79 ?_
        refine x_getR (n0 := this) hC (ci := 7) (T := TX7) (N := 36) (C := RX7) 24 k3 rfl rfl (by decide) rfl q713 dX7_link_80 ?_
        rw [r2.1]
        rw [show rv ρ (hR σ1 this 24) = Value.ref (ρ m1) from by rw [hm1]; rfl]
        refine x_iload_n hC 2 rfl dX7_link_83 ?_
        refine x_iload_n hC 4 rfl dX7_link_84 ?_
        refine x_if_eq (tgt := 101) hC dX7_link_85 (by decide) (fun c4 => ?_) (fun c4 => ?_)
        · have h := h.1 c4
          refine x_aload_n hC 1 rfl dX7_link_101 ?_
          refine x_getR (n0 := this) hC (ci := 7) (T := TX7) (N := 36) (C := RX7) 24 k3 rfl rfl (by decide) rfl q713 dX7_link_102 ?_
          rw [r2.1]
          rw [show rv ρ (hR σ1 this 24) = Value.ref (ρ m1) from by rw [hm1]; rfl]
          refine x_iload_n hC 2 rfl dX7_link_105 ?_
          refine x_iald (a := m1) hC k4 (by rw [r2.2]; exact v2) dX7_link_106 ?_
          refine x_iconst (v := 1) hC dX7_link_107 (by decide) ?_
          refine x_iload_n hC 3 rfl dX7_link_108 ?_
          refine x_ishl hC dX7_link_109 ?_
          refine x_iconst (v := (-1)) hC dX7_link_110 (by decide) ?_
          refine x_ixor hC dX7_link_111 ?_
          refine x_iand hC dX7_link_112 ?_
          refine x_iast (a := m1) hC k4 (by rw [r2.2]; exact v2) dX7_link_113 ?_
          refine xJ.nmH (fun σ3 e2 => ?_)
          have h := h σ3 e2
          have r3 : hR σ3 = hR σ1 ∧ hL σ3 = hL σ1 := by rw [e2]; exact ⟨r2.1, r2.2⟩
          refine x_iload hC 0 rfl dX7_link_114 ?_
          refine x_iload_n hC 4 rfl dX7_link_116 ?_
          refine x_icmp_eq (tgt := 124) hC dX7_link_117 (by decide) (fun c5 => ?_) (fun c5 => ?_)
          · have h := h.1 c5
            refine x_iconst (v := 0) hC dX7_link_124 (by decide) ?_
            exact x_zret hC hr zb0 dX7_link_125 (by decide) (by decide) ⟨rfl, _, rfl, h⟩
          · have h := h.2 c5
            refine x_iconst (v := 1) hC dX7_link_120 (by decide) ?_
            refine x_goto (tgt := 125) hC dX7_link_121 (by decide) ?_
            exact x_zret hC hr zb1 dX7_link_125 (by decide) (by decide) ⟨rfl, _, rfl, h⟩
        · have h := h.2 c4
          refine x_aload_n hC 1 rfl dX7_link_88 ?_
          refine x_getR (n0 := this) hC (ci := 7) (T := TX7) (N := 36) (C := RX7) 24 k3 rfl rfl (by decide) rfl q713 dX7_link_89 ?_
          rw [r2.1]
          rw [show rv ρ (hR σ1 this 24) = Value.ref (ρ m1) from by rw [hm1]; rfl]
          refine x_iload_n hC 2 rfl dX7_link_92 ?_
          refine x_iald (a := m1) hC k4 (by rw [r2.2]; exact v2) dX7_link_93 ?_
          refine x_iconst (v := 1) hC dX7_link_94 (by decide) ?_
          refine x_iload_n hC 3 rfl dX7_link_95 ?_
          refine x_ishl hC dX7_link_96 ?_
          refine x_ior hC dX7_link_97 ?_
          refine x_goto (tgt := 113) hC dX7_link_98 (by decide) ?_
          refine x_iast (a := m1) hC k4 (by rw [r2.2]; exact v2) dX7_link_113 ?_
          refine xJ.nmH (fun σ4 e3 => ?_)
          have h := h σ4 e3
          have r4 : hR σ4 = hR σ1 ∧ hL σ4 = hL σ1 := by rw [e3]; exact ⟨r2.1, r2.2⟩
          refine x_iload hC 0 rfl dX7_link_114 ?_
          refine x_iload_n hC 4 rfl dX7_link_116 ?_
          refine x_icmp_eq (tgt := 124) hC dX7_link_117 (by decide) (fun c6 => ?_) (fun c6 => ?_)
          · have h := h.1 c6
            refine x_iconst (v := 0) hC dX7_link_124 (by decide) ?_
            exact x_zret hC hr zb0 dX7_link_125 (by decide) (by decide) ⟨rfl, _, rfl, h⟩
          · have h := h.2 c6
            refine x_iconst (v := 1) hC dX7_link_120 (by decide) ?_
            refine x_goto (tgt := 125) hC dX7_link_121 (by decide) ?_
            exact x_zret hC hr zb1 dX7_link_125 (by decide) (by decide) ⟨rfl, _, rfl, h⟩
      · have h := h.2 c3
        refine x_iconst (v := 1) hC dX7_link_72 (by decide) ?_
        refine x_goto (tgt := 77) hC dX7_link_73 (by decide) ?_
        refine x_istore (L' := [(4, .int 1), (0, .ref (ρ this)), (1, .int p1), (2, .int p2), (3, .int p3)]) hC dX7_link_77 (by decide) (by first | rfl | simp (decide := true) [rv_cat, cat_ref, cat_int]) ?_
        refine x_aload_n hC 1 rfl dX7_link_79 ?_
        refine x_getR (n0 := this) hC (ci := 7) (T := TX7) (N := 36) (C := RX7) 24 k3 rfl rfl (by decide) rfl q713 dX7_link_80 ?_
        rw [r2.1]
        rw [show rv ρ (hR σ1 this 24) = Value.ref (ρ m1) from by rw [hm1]; rfl]
        refine x_iload_n hC 2 rfl dX7_link_83 ?_
        refine x_iload_n hC 4 rfl dX7_link_84 ?_
        refine x_if_eq (tgt := 101) hC dX7_link_85 (by decide) (fun c7 => ?_) (fun c7 => ?_)
        · have h := h.1 c7
          refine x_aload_n hC 1 rfl dX7_link_101 ?_
          refine x_getR (n0 := this) hC (ci := 7) (T := TX7) (N := 36) (C := RX7) 24 k3 rfl rfl (by decide) rfl q713 dX7_link_102 ?_
          rw [r2.1]
          rw [show rv ρ (hR σ1 this 24) = Value.ref (ρ m1) from by rw [hm1]; rfl]
          refine x_iload_n hC 2 rfl dX7_link_105 ?_
          refine x_iald (a := m1) hC k4 (by rw [r2.2]; exact v2) dX7_link_106 ?_
          refine x_iconst (v := 1) hC dX7_link_107 (by decide) ?_
          refine x_iload_n hC 3 rfl dX7_link_108 ?_
          refine x_ishl hC dX7_link_109 ?_
          refine x_iconst (v := (-1)) hC dX7_link_110 (by decide) ?_
          refine x_ixor hC dX7_link_111 ?_
          refine x_iand hC dX7_link_112 ?_
          refine x_iast (a := m1) hC k4 (by rw [r2.2]; exact v2) dX7_link_113 ?_
          refine xJ.nmH (fun σ5 e4 => ?_)
          have h := h σ5 e4
          have r5 : hR σ5 = hR σ1 ∧ hL σ5 = hL σ1 := by rw [e4]; exact ⟨r2.1, r2.2⟩
          refine x_iload hC 0 rfl dX7_link_114 ?_
          refine x_iload_n hC 4 rfl dX7_link_116 ?_
          refine x_icmp_eq (tgt := 124) hC dX7_link_117 (by decide) (fun c8 => ?_) (fun c8 => ?_)
          · have h := h.1 c8
            refine x_iconst (v := 0) hC dX7_link_124 (by decide) ?_
            exact x_zret hC hr zb0 dX7_link_125 (by decide) (by decide) ⟨rfl, _, rfl, h⟩
          · have h := h.2 c8
            refine x_iconst (v := 1) hC dX7_link_120 (by decide) ?_
            refine x_goto (tgt := 125) hC dX7_link_121 (by decide) ?_
            exact x_zret hC hr zb1 dX7_link_125 (by decide) (by decide) ⟨rfl, _, rfl, h⟩
        · have h := h.2 c7
          refine x_aload_n hC 1 rfl dX7_link_88 ?_
          refine x_getR (n0 := this) hC (ci := 7) (T := TX7) (N := 36) (C := RX7) 24 k3 rfl rfl (by decide) rfl q713 dX7_link_89 ?_
          rw [r2.1]
          rw [show rv ρ (hR σ1 this 24) = Value.ref (ρ m1) from by rw [hm1]; rfl]
          refine x_iload_n hC 2 rfl dX7_link_92 ?_
          refine x_iald (a := m1) hC k4 (by rw [r2.2]; exact v2) dX7_link_93 ?_
          refine x_iconst (v := 1) hC dX7_link_94 (by decide) ?_
          refine x_iload_n hC 3 rfl dX7_link_95 ?_
          refine x_ishl hC dX7_link_96 ?_
          refine x_ior hC dX7_link_97 ?_
          refine x_goto (tgt := 113) hC dX7_link_98 (by decide) ?_
          refine x_iast (a := m1) hC k4 (by rw [r2.2]; exact v2) dX7_link_113 ?_
          refine xJ.nmH (fun σ6 e5 => ?_)
          have h := h σ6 e5
          have r6 : hR σ6 = hR σ1 ∧ hL σ6 = hL σ1 := by rw [e5]; exact ⟨r2.1, r2.2⟩
          refine x_iload hC 0 rfl dX7_link_114 ?_
          refine x_iload_n hC 4 rfl dX7_link_116 ?_
          refine x_icmp_eq (tgt := 124) hC dX7_link_117 (by decide) (fun c9 => ?_) (fun c9 => ?_)
          · have h := h.1 c9
            refine x_iconst (v := 0) hC dX7_link_124 (by decide) ?_
            exact x_zret hC hr zb0 dX7_link_125 (by decide) (by decide) ⟨rfl, _, rfl, h⟩
          · have h := h.2 c9
            refine x_iconst (v := 1) hC dX7_link_120 (by decide) ?_
            refine x_goto (tgt := 125) hC dX7_link_121 (by decide) ?_
            exact x_zret hC hr zb1 dX7_link_125 (by decide) (by decide) ⟨rfl, _, rfl, h⟩
    · have h := h.2 c2
      refine x_iconst (v := 0) hC dX7_link_56 (by decide) ?_
      exact x_zret hC hr zb0 dX7_link_57 (by decide) (by decide) ⟨rfl, _, rfl, h⟩
  · have h := h.2 c1
    refine x_aload_n hC 0 rfl dX7_link_9 ?_
    refine x_iload_n hC 2 rfl dX7_link_10 ?_
    have k5 : hK σ1 this = 8 := (hag1 this (by rw [k1]; decide)).1.trans k1
    refine x_callV (n0 := this) (as := [.int p2]) (rest := [.ref (ρ this)]) hC (ci := 7) (r := (RX7, TX7, 36)) k5 rfl (fun l hl => m7_isItem l hl G ρ this p2 σ1 _ h) q844 q846 s18 q3 q847 ⟨rfl, hd7_isItem⟩ (by decide) ⟨(by decide), (by decide)⟩ (by first | exact Nat.le_of_ble_eq_true rfl | (simp [rv_cat]; done) | (simp (decide := true) [rv_cat, cat_ref, cat_int]; done)) rfl dX7_link_11 (fun E σ9 hx => False.elim hx) (fun v3 σ7 ρ2 hp2 hag2 => ?_)
    obtain ⟨e9, r7, e8, h⟩ := hp2
    rw [e8, e9]
    refine xJ.nrm (k' := 0) (n' := 0) (pc' := 14) (st' := [.int r7, .ref (ρ this)]) rfl rfl rfl rfl ?_
    refine x_if_ne (tgt := 21) hC dX7_link_14 (by decide) (fun c10 => ?_) (fun c10 => ?_)
    · have h := h.1 c10
      refine x_iload_n hC 1 rfl dX7_link_21 ?_
      refine x_iload_n hC 2 rfl dX7_link_22 ?_
      refine x_icmp_eq (tgt := 41) hC dX7_link_23 (by decide) (fun c11 => ?_) (fun c11 => ?_)
      · have h := h.1 c11
        refine x_iconst (v := 2) hC dX7_link_41 (by decide) ?_
        refine x_goto (tgt := 46) hC dX7_link_42 (by decide) ?_
        have k6 : hK σ7 this = 8 := (hag2 this (by rw [k5]; decide)).1.trans k5
        refine x_putI (n0 := this) hC (ci := 7) (T := TX7) (N := 36) (C := RX7) 0 k6 rfl rfl (by decide) rfl q689 rfl (tyX7_ok 0 (by decide)) dX7_link_46 ?_
        refine xJ.nmH (fun σ8 e6 => ?_)
        have h := h σ8 e6
        have r8 : hR σ8 = hR σ7 ∧ hL σ8 = hL σ7 := by rw [e6]; exact ⟨rfl, rfl⟩
        refine x_aload_n hC 0 rfl dX7_link_49 ?_
        have k7 : hK σ8 this = 8 := by rw [e6]; exact k6
        refine x_getI (n0 := this) hC (ci := 7) (T := TX7) (N := 36) (C := RX7) 0 k7 rfl rfl (by decide) rfl q689 dX7_link_50 ?_
        refine x_if_le (tgt := 58) hC dX7_link_53 (by decide) (fun c12 => ?_) (fun c12 => ?_)
        · have h := h.1 c12
          refine x_aload_n hC 0 rfl dX7_link_58 ?_
          refine x_getR (n0 := this) hC (ci := 7) (T := TX7) (N := 36) (C := RX7) 24 k7 rfl rfl (by decide) rfl q713 dX7_link_59 ?_
          rw [r8.1]
          refine x_iload_n hC 1 rfl dX7_link_62 ?_
          obtain ⟨m2, hm2, h⟩ := h
          rw [show rv ρ (hR σ7 this 24) = Value.ref (ρ m2) from by rw [hm2]; rfl]
          obtain ⟨k8, h⟩ := h
          obtain ⟨v4, h⟩ := h
          refine x_iald (a := m2) hC k8 (by rw [r8.2]; exact v4) dX7_link_63 ?_
          refine x_iload_n hC 2 rfl dX7_link_64 ?_
          refine x_ishr hC dX7_link_65 ?_
          refine x_iconst (v := 1) hC dX7_link_66 (by decide) ?_
          refine x_iand hC dX7_link_67 ?_
          refine x_iconst (v := 1) hC dX7_link_68 (by decide) ?_
          refine x_icmp_ne (tgt := 76) hC dX7_link_69 (by decide) (fun c13 => ?_) (fun c13 => ?_)
          · have h := h.1 c13
            refine x_iconst (v := 0) hC dX7_link_76 (by decide) ?_
            refine x_istore (L' := [(4, .int 0), (0, .ref (ρ this)), (1, .int p1), (2, .int p2), (3, .int p3)]) hC dX7_link_77 (by decide) (by first | rfl | simp (decide := true) [rv_cat, cat_ref, cat_int]) ?_
            refine x_aload_n hC 1 rfl dX7_link_79 ?_
            refine x_getR (n0 := this) hC (ci := 7) (T := TX7) (N := 36) (C := RX7) 24 k7 rfl rfl (by decide) rfl q713 dX7_link_80 ?_
            rw [r8.1]
            rw [show rv ρ (hR σ7 this 24) = Value.ref (ρ m2) from by rw [hm2]; rfl]
            refine x_iload_n hC 2 rfl dX7_link_83 ?_
            refine x_iload_n hC 4 rfl dX7_link_84 ?_
            refine x_if_eq (tgt := 101) hC dX7_link_85 (by decide) (fun c14 => ?_) (fun c14 => ?_)
            · have h := h.1 c14
              refine x_aload_n hC 1 rfl dX7_link_101 ?_
              refine x_getR (n0 := this) hC (ci := 7) (T := TX7) (N := 36) (C := RX7) 24 k7 rfl rfl (by decide) rfl q713 dX7_link_102 ?_
              rw [r8.1]
              rw [show rv ρ (hR σ7 this 24) = Value.ref (ρ m2) from by rw [hm2]; rfl]
              refine x_iload_n hC 2 rfl dX7_link_105 ?_
              refine x_iald (a := m2) hC k8 (by rw [r8.2]; exact v4) dX7_link_106 ?_
              refine x_iconst (v := 1) hC dX7_link_107 (by decide) ?_
              refine x_iload_n hC 3 rfl dX7_link_108 ?_
              refine x_ishl hC dX7_link_109 ?_
              refine x_iconst (v := (-1)) hC dX7_link_110 (by decide) ?_
              refine x_ixor hC dX7_link_111 ?_
              refine x_iand hC dX7_link_112 ?_
              refine x_iast (a := m2) hC k8 (by rw [r8.2]; exact v4) dX7_link_113 ?_
              refine xJ.nmH (fun σ9 e7 => ?_)
              have h := h σ9 e7
              have r9 : hR σ9 = hR σ7 ∧ hL σ9 = hL σ7 := by rw [e7]; exact ⟨r8.1, r8.2⟩
              refine x_iload hC 0 rfl dX7_link_114 ?_
              refine x_iload_n hC 4 rfl dX7_link_116 ?_
              refine x_icmp_eq (tgt := 124) hC dX7_link_117 (by decide) (fun c15 => ?_) (fun c15 => ?_)
              · have h := h.1 c15
                refine x_iconst (v := 0) hC dX7_link_124 (by decide) ?_
                exact x_zret hC hr zb0 dX7_link_125 (by decide) (by decide) ⟨rfl, _, rfl, h⟩
              · have h := h.2 c15
                refine x_iconst (v := 1) hC dX7_link_120 (by decide) ?_
                refine x_goto (tgt := 125) hC dX7_link_121 (by decide) ?_
                exact x_zret hC hr zb1 dX7_link_125 (by decide) (by decide) ⟨rfl, _, rfl, h⟩
            · have h := h.2 c14
              refine x_aload_n hC 1 rfl dX7_link_88 ?_
              refine x_getR (n0 := this) hC (ci := 7) (T := TX7) (N := 36) (C := RX7) 24 k7 rfl rfl (by decide) rfl q713 dX7_link_89 ?_
              rw [r8.1]
              rw [show rv ρ (hR σ7 this 24) = Value.ref (ρ m2) from by rw [hm2]; rfl]
              refine x_iload_n hC 2 rfl dX7_link_92 ?_
              refine x_iald (a := m2) hC k8 (by rw [r8.2]; exact v4) dX7_link_93 ?_
              refine x_iconst (v := 1) hC dX7_link_94 (by decide) ?_
              refine x_iload_n hC 3 rfl dX7_link_95 ?_
              refine x_ishl hC dX7_link_96 ?_
              refine x_ior hC dX7_link_97 ?_
              refine x_goto (tgt := 113) hC dX7_link_98 (by decide) ?_
              refine x_iast (a := m2) hC k8 (by rw [r8.2]; exact v4) dX7_link_113 ?_
              refine xJ.nmH (fun σ10 e8 => ?_)
              have h := h σ10 e8
              have r10 : hR σ10 = hR σ7 ∧ hL σ10 = hL σ7 := by rw [e8]; exact ⟨r8.1, r8.2⟩
              refine x_iload hC 0 rfl dX7_link_114 ?_
              refine x_iload_n hC 4 rfl dX7_link_116 ?_
              refine x_icmp_eq (tgt := 124) hC dX7_link_117 (by decide) (fun c16 => ?_) (fun c16 => ?_)
              · have h := h.1 c16
                refine x_iconst (v := 0) hC dX7_link_124 (by decide) ?_
                exact x_zret hC hr zb0 dX7_link_125 (by decide) (by decide) ⟨rfl, _, rfl, h⟩
              · have h := h.2 c16
                refine x_iconst (v := 1) hC dX7_link_120 (by decide) ?_
                refine x_goto (tgt := 125) hC dX7_link_121 (by decide) ?_
                exact x_zret hC hr zb1 dX7_link_125 (by decide) (by decide) ⟨rfl, _, rfl, h⟩
          · have h := h.2 c13
            refine x_iconst (v := 1) hC dX7_link_72 (by decide) ?_
            refine x_goto (tgt := 77) hC dX7_link_73 (by decide) ?_
            refine x_istore (L' := [(4, .int 1), (0, .ref (ρ this)), (1, .int p1), (2, .int p2), (3, .int p3)]) hC dX7_link_77 (by decide) (by first | rfl | simp (decide := true) [rv_cat, cat_ref, cat_int]) ?_
            refine x_aload_n hC 1 rfl dX7_link_79 ?_
            refine x_getR (n0 := this) hC (ci := 7) (T := TX7) (N := 36) (C := RX7) 24 k7 rfl rfl (by decide) rfl q713 dX7_link_80 ?_
            rw [r8.1]
            rw [show rv ρ (hR σ7 this 24) = Value.ref (ρ m2) from by rw [hm2]; rfl]
            refine x_iload_n hC 2 rfl dX7_link_83 ?_
            refine x_iload_n hC 4 rfl dX7_link_84 ?_
            refine x_if_eq (tgt := 101) hC dX7_link_85 (by decide) (fun c17 => ?_) (fun c17 => ?_)
            · have h := h.1 c17
              refine x_aload_n hC 1 rfl dX7_link_101 ?_
              refine x_getR (n0 := this) hC (ci := 7) (T := TX7) (N := 36) (C := RX7) 24 k7 rfl rfl (by decide) rfl q713 dX7_link_102 ?_
              rw [r8.1]
              rw [show rv ρ (hR σ7 this 24) = Value.ref (ρ m2) from by rw [hm2]; rfl]
              refine x_iload_n hC 2 rfl dX7_link_105 ?_
              refine x_iald (a := m2) hC k8 (by rw [r8.2]; exact v4) dX7_link_106 ?_
              refine x_iconst (v := 1) hC dX7_link_107 (by decide) ?_
              refine x_iload_n hC 3 rfl dX7_link_108 ?_
              refine x_ishl hC dX7_link_109 ?_
              refine x_iconst (v := (-1)) hC dX7_link_110 (by decide) ?_
              refine x_ixor hC dX7_link_111 ?_
              refine x_iand hC dX7_link_112 ?_
              refine x_iast (a := m2) hC k8 (by rw [r8.2]; exact v4) dX7_link_113 ?_
              refine xJ.nmH (fun σ11 e9 => ?_)
              have h := h σ11 e9
              have r11 : hR σ11 = hR σ7 ∧ hL σ11 = hL σ7 := by rw [e9]; exact ⟨r8.1, r8.2⟩
              refine x_iload hC 0 rfl dX7_link_114 ?_
              refine x_iload_n hC 4 rfl dX7_link_116 ?_
              refine x_icmp_eq (tgt := 124) hC dX7_link_117 (by decide) (fun c18 => ?_) (fun c18 => ?_)
              · have h := h.1 c18
                refine x_iconst (v := 0) hC dX7_link_124 (by decide) ?_
                exact x_zret hC hr zb0 dX7_link_125 (by decide) (by decide) ⟨rfl, _, rfl, h⟩
              · have h := h.2 c18
                refine x_iconst (v := 1) hC dX7_link_120 (by decide) ?_
                refine x_goto (tgt := 125) hC dX7_link_121 (by decide) ?_
                exact x_zret hC hr zb1 dX7_link_125 (by decide) (by decide) ⟨rfl, _, rfl, h⟩
            · have h := h.2 c17
              refine x_aload_n hC 1 rfl dX7_link_88 ?_
              refine x_getR (n0 := this) hC (ci := 7) (T := TX7) (N := 36) (C := RX7) 24 k7 rfl rfl (by decide) rfl q713 dX7_link_89 ?_
              rw [r8.1]
              rw [show rv ρ (hR σ7 this 24) = Value.ref (ρ m2) from by rw [hm2]; rfl]
              refine x_iload_n hC 2 rfl dX7_link_92 ?_
              refine x_iald (a := m2) hC k8 (by rw [r8.2]; exact v4) dX7_link_93 ?_
              refine x_iconst (v := 1) hC dX7_link_94 (by decide) ?_
              refine x_iload_n hC 3 rfl dX7_link_95 ?_
              refine x_ishl hC dX7_link_96 ?_
              refine x_ior hC dX7_link_97 ?_
              refine x_goto (tgt := 113) hC dX7_link_98 (by decide) ?_
              refine x_iast (a := m2) hC k8 (by rw [r8.2]; exact v4) dX7_link_113 ?_
              refine xJ.nmH (fun σ12 e10 => ?_)
              have h := h σ12 e10
              have r12 : hR σ12 = hR σ7 ∧ hL σ12 = hL σ7 := by rw [e10]; exact ⟨r8.1, r8.2⟩
              refine x_iload hC 0 rfl dX7_link_114 ?_
              refine x_iload_n hC 4 rfl dX7_link_116 ?_
              refine x_icmp_eq (tgt := 124) hC dX7_link_117 (by decide) (fun c19 => ?_) (fun c19 => ?_)
              · have h := h.1 c19
                refine x_iconst (v := 0) hC dX7_link_124 (by decide) ?_
                exact x_zret hC hr zb0 dX7_link_125 (by decide) (by decide) ⟨rfl, _, rfl, h⟩
              · have h := h.2 c19
                refine x_iconst (v := 1) hC dX7_link_120 (by decide) ?_
                refine x_goto (tgt := 125) hC dX7_link_121 (by decide) ?_
                exact x_zret hC hr zb1 dX7_link_125 (by decide) (by decide) ⟨rfl, _, rfl, h⟩
        · have h := h.2 c12
          refine x_iconst (v := 0) hC dX7_link_56 (by decide) ?_
          exact x_zret hC hr zb0 dX7_link_57 (by decide) (by decide) ⟨rfl, _, rfl, h⟩
      · have h := h.2 c11
        refine x_aload_n hC 0 rfl dX7_link_26 ?_
        have k9 : hK σ7 this = 8 := (hag2 this (by rw [k5]; decide)).1.trans k5
        refine x_getR (n0 := this) hC (ci := 7) (T := TX7) (N := 36) (C := RX7) 16 k9 rfl rfl (by decide) rfl q705 dX7_link_27 ?_
        refine x_iload_n hC 1 rfl dX7_link_30 ?_
        obtain ⟨m3, hm3, h⟩ := h
        rw [show rv ρ (hR σ7 this 16) = Value.ref (ρ m3) from by rw [hm3]; rfl]
        obtain ⟨k10, h⟩ := h
        obtain ⟨v5, h⟩ := h
        refine x_iald (a := m3) hC k10 v5 dX7_link_31 ?_
        refine x_aload_n hC 0 rfl dX7_link_32 ?_
        refine x_getR (n0 := this) hC (ci := 7) (T := TX7) (N := 36) (C := RX7) 16 k9 rfl rfl (by decide) rfl q705 dX7_link_33 ?_
        rw [show rv ρ (hR σ7 this 16) = Value.ref (ρ m3) from by rw [hm3]; rfl]
        refine x_iload_n hC 2 rfl dX7_link_36 ?_
        obtain ⟨v6, h⟩ := h
        refine x_iald (a := m3) hC k10 v6 dX7_link_37 ?_
        refine x_icmp_eq (tgt := 45) hC dX7_link_38 (by decide) (fun c20 => ?_) (fun c20 => ?_)
        · have h := h.1 c20
          refine x_iconst (v := 0) hC dX7_link_45 (by decide) ?_
          refine x_putI (n0 := this) hC (ci := 7) (T := TX7) (N := 36) (C := RX7) 0 k9 rfl rfl (by decide) rfl q689 rfl (tyX7_ok 0 (by decide)) dX7_link_46 ?_
          refine xJ.nmH (fun σ13 e11 => ?_)
          have h := h σ13 e11
          have r13 : hR σ13 = hR σ7 ∧ hL σ13 = hL σ7 := by rw [e11]; exact ⟨rfl, rfl⟩
          refine x_aload_n hC 0 rfl dX7_link_49 ?_
          have k11 : hK σ13 this = 8 := by rw [e11]; exact k9
          refine x_getI (n0 := this) hC (ci := 7) (T := TX7) (N := 36) (C := RX7) 0 k11 rfl rfl (by decide) rfl q689 dX7_link_50 ?_
          refine x_if_le (tgt := 58) hC dX7_link_53 (by decide) (fun c21 => ?_) (fun c21 => ?_)
          · have h := h.1 c21
            refine x_aload_n hC 0 rfl dX7_link_58 ?_
            refine x_getR (n0 := this) hC (ci := 7) (T := TX7) (N := 36) (C := RX7) 24 k11 rfl rfl (by decide) rfl q713 dX7_link_59 ?_
            rw [r13.1]
            refine x_iload_n hC 1 rfl dX7_link_62 ?_
            obtain ⟨m4, hm4, h⟩ := h
            rw [show rv ρ (hR σ7 this 24) = Value.ref (ρ m4) from by rw [hm4]; rfl]
            obtain ⟨k12, h⟩ := h
            obtain ⟨v7, h⟩ := h
            refine x_iald (a := m4) hC k12 (by rw [r13.2]; exact v7) dX7_link_63 ?_
            refine x_iload_n hC 2 rfl dX7_link_64 ?_
            refine x_ishr hC dX7_link_65 ?_
            refine x_iconst (v := 1) hC dX7_link_66 (by decide) ?_
            refine x_iand hC dX7_link_67 ?_
            refine x_iconst (v := 1) hC dX7_link_68 (by decide) ?_
            refine x_icmp_ne (tgt := 76) hC dX7_link_69 (by decide) (fun c22 => ?_) (fun c22 => ?_)
            · have h := h.1 c22
              refine x_iconst (v := 0) hC dX7_link_76 (by decide) ?_
              refine x_istore (L' := [(4, .int 0), (0, .ref (ρ this)), (1, .int p1), (2, .int p2), (3, .int p3)]) hC dX7_link_77 (by decide) (by first | rfl | simp (decide := true) [rv_cat, cat_ref, cat_int]) ?_
              refine x_aload_n hC 1 rfl dX7_link_79 ?_
              refine x_getR (n0 := this) hC (ci := 7) (T := TX7) (N := 36) (C := RX7) 24 k11 rfl rfl (by decide) rfl q713 dX7_link_80 ?_
              rw [r13.1]
              rw [show rv ρ (hR σ7 this 24) = Value.ref (ρ m4) from by rw [hm4]; rfl]
              refine x_iload_n hC 2 rfl dX7_link_83 ?_
              refine x_iload_n hC 4 rfl dX7_link_84 ?_
              refine x_if_eq (tgt := 101) hC dX7_link_85 (by decide) (fun c23 => ?_) (fun c23 => ?_)
              · have h := h.1 c23
                refine x_aload_n hC 1 rfl dX7_link_101 ?_
                refine x_getR (n0 := this) hC (ci := 7) (T := TX7) (N := 36) (C := RX7) 24 k11 rfl rfl (by decide) rfl q713 dX7_link_102 ?_
                rw [r13.1]
                rw [show rv ρ (hR σ7 this 24) = Value.ref (ρ m4) from by rw [hm4]; rfl]
                refine x_iload_n hC 2 rfl dX7_link_105 ?_
                refine x_iald (a := m4) hC k12 (by rw [r13.2]; exact v7) dX7_link_106 ?_
                refine x_iconst (v := 1) hC dX7_link_107 (by decide) ?_
                refine x_iload_n hC 3 rfl dX7_link_108 ?_
                refine x_ishl hC dX7_link_109 ?_
                refine x_iconst (v := (-1)) hC dX7_link_110 (by decide) ?_
                refine x_ixor hC dX7_link_111 ?_
                refine x_iand hC dX7_link_112 ?_
                refine x_iast (a := m4) hC k12 (by rw [r13.2]; exact v7) dX7_link_113 ?_
                refine xJ.nmH (fun σ14 e12 => ?_)
                have h := h σ14 e12
                have r14 : hR σ14 = hR σ7 ∧ hL σ14 = hL σ7 := by rw [e12]; exact ⟨r13.1, r13.2⟩
                refine x_iload hC 0 rfl dX7_link_114 ?_
                refine x_iload_n hC 4 rfl dX7_link_116 ?_
                refine x_icmp_eq (tgt := 124) hC dX7_link_117 (by decide) (fun c24 => ?_) (fun c24 => ?_)
                · have h := h.1 c24
                  refine x_iconst (v := 0) hC dX7_link_124 (by decide) ?_
                  exact x_zret hC hr zb0 dX7_link_125 (by decide) (by decide) ⟨rfl, _, rfl, h⟩
                · have h := h.2 c24
                  refine x_iconst (v := 1) hC dX7_link_120 (by decide) ?_
                  refine x_goto (tgt := 125) hC dX7_link_121 (by decide) ?_
                  exact x_zret hC hr zb1 dX7_link_125 (by decide) (by decide) ⟨rfl, _, rfl, h⟩
              · have h := h.2 c23
                refine x_aload_n hC 1 rfl dX7_link_88 ?_
                refine x_getR (n0 := this) hC (ci := 7) (T := TX7) (N := 36) (C := RX7) 24 k11 rfl rfl (by decide) rfl q713 dX7_link_89 ?_
                rw [r13.1]
                rw [show rv ρ (hR σ7 this 24) = Value.ref (ρ m4) from by rw [hm4]; rfl]
                refine x_iload_n hC 2 rfl dX7_link_92 ?_
                refine x_iald (a := m4) hC k12 (by rw [r13.2]; exact v7) dX7_link_93 ?_
                refine x_iconst (v := 1) hC dX7_link_94 (by decide) ?_
                refine x_iload_n hC 3 rfl dX7_link_95 ?_
                refine x_ishl hC dX7_link_96 ?_
                refine x_ior hC dX7_link_97 ?_
                refine x_goto (tgt := 113) hC dX7_link_98 (by decide) ?_
                refine x_iast (a := m4) hC k12 (by rw [r13.2]; exact v7) dX7_link_113 ?_
                refine xJ.nmH (fun σ15 e13 => ?_)
                have h := h σ15 e13
                have r15 : hR σ15 = hR σ7 ∧ hL σ15 = hL σ7 := by rw [e13]; exact ⟨r13.1, r13.2⟩
                refine x_iload hC 0 rfl dX7_link_114 ?_
                refine x_iload_n hC 4 rfl dX7_link_116 ?_
                refine x_icmp_eq (tgt := 124) hC dX7_link_117 (by decide) (fun c25 => ?_) (fun c25 => ?_)
                · have h := h.1 c25
                  refine x_iconst (v := 0) hC dX7_link_124 (by decide) ?_
                  exact x_zret hC hr zb0 dX7_link_125 (by decide) (by decide) ⟨rfl, _, rfl, h⟩
                · have h := h.2 c25
                  refine x_iconst (v := 1) hC dX7_link_120 (by decide) ?_
                  refine x_goto (tgt := 125) hC dX7_link_121 (by decide) ?_
                  exact x_zret hC hr zb1 dX7_link_125 (by decide) (by decide) ⟨rfl, _, rfl, h⟩
            · have h := h.2 c22
              refine x_iconst (v := 1) hC dX7_link_72 (by decide) ?_
              refine x_goto (tgt := 77) hC dX7_link_73 (by decide) ?_
              refine x_istore (L' := [(4, .int 1), (0, .ref (ρ this)), (1, .int p1), (2, .int p2), (3, .int p3)]) hC dX7_link_77 (by decide) (by first | rfl | simp (decide := true) [rv_cat, cat_ref, cat_int]) ?_
              refine x_aload_n hC 1 rfl dX7_link_79 ?_
              refine x_getR (n0 := this) hC (ci := 7) (T := TX7) (N := 36) (C := RX7) 24 k11 rfl rfl (by decide) rfl q713 dX7_link_80 ?_
              rw [r13.1]
              rw [show rv ρ (hR σ7 this 24) = Value.ref (ρ m4) from by rw [hm4]; rfl]
              refine x_iload_n hC 2 rfl dX7_link_83 ?_
              refine x_iload_n hC 4 rfl dX7_link_84 ?_
              refine x_if_eq (tgt := 101) hC dX7_link_85 (by decide) (fun c26 => ?_) (fun c26 => ?_)
              · have h := h.1 c26
                refine x_aload_n hC 1 rfl dX7_link_101 ?_
                refine x_getR (n0 := this) hC (ci := 7) (T := TX7) (N := 36) (C := RX7) 24 k11 rfl rfl (by decide) rfl q713 dX7_link_102 ?_
                rw [r13.1]
                rw [show rv ρ (hR σ7 this 24) = Value.ref (ρ m4) from by rw [hm4]; rfl]
                refine x_iload_n hC 2 rfl dX7_link_105 ?_
                refine x_iald (a := m4) hC k12 (by rw [r13.2]; exact v7) dX7_link_106 ?_
                refine x_iconst (v := 1) hC dX7_link_107 (by decide) ?_
                refine x_iload_n hC 3 rfl dX7_link_108 ?_
                refine x_ishl hC dX7_link_109 ?_
                refine x_iconst (v := (-1)) hC dX7_link_110 (by decide) ?_
                refine x_ixor hC dX7_link_111 ?_
                refine x_iand hC dX7_link_112 ?_
                refine x_iast (a := m4) hC k12 (by rw [r13.2]; exact v7) dX7_link_113 ?_
                refine xJ.nmH (fun σ16 e14 => ?_)
                have h := h σ16 e14
                have r16 : hR σ16 = hR σ7 ∧ hL σ16 = hL σ7 := by rw [e14]; exact ⟨r13.1, r13.2⟩
                refine x_iload hC 0 rfl dX7_link_114 ?_
                refine x_iload_n hC 4 rfl dX7_link_116 ?_
                refine x_icmp_eq (tgt := 124) hC dX7_link_117 (by decide) (fun c27 => ?_) (fun c27 => ?_)
                · have h := h.1 c27
                  refine x_iconst (v := 0) hC dX7_link_124 (by decide) ?_
                  exact x_zret hC hr zb0 dX7_link_125 (by decide) (by decide) ⟨rfl, _, rfl, h⟩
                · have h := h.2 c27
                  refine x_iconst (v := 1) hC dX7_link_120 (by decide) ?_
                  refine x_goto (tgt := 125) hC dX7_link_121 (by decide) ?_
                  exact x_zret hC hr zb1 dX7_link_125 (by decide) (by decide) ⟨rfl, _, rfl, h⟩
              · have h := h.2 c26
                refine x_aload_n hC 1 rfl dX7_link_88 ?_
                refine x_getR (n0 := this) hC (ci := 7) (T := TX7) (N := 36) (C := RX7) 24 k11 rfl rfl (by decide) rfl q713 dX7_link_89 ?_
                rw [r13.1]
                rw [show rv ρ (hR σ7 this 24) = Value.ref (ρ m4) from by rw [hm4]; rfl]
                refine x_iload_n hC 2 rfl dX7_link_92 ?_
                refine x_iald (a := m4) hC k12 (by rw [r13.2]; exact v7) dX7_link_93 ?_
                refine x_iconst (v := 1) hC dX7_link_94 (by decide) ?_
                refine x_iload_n hC 3 rfl dX7_link_95 ?_
                refine x_ishl hC dX7_link_96 ?_
                refine x_ior hC dX7_link_97 ?_
                refine x_goto (tgt := 113) hC dX7_link_98 (by decide) ?_
                refine x_iast (a := m4) hC k12 (by rw [r13.2]; exact v7) dX7_link_113 ?_
                refine xJ.nmH (fun σ17 e15 => ?_)
                have h := h σ17 e15
                have r17 : hR σ17 = hR σ7 ∧ hL σ17 = hL σ7 := by rw [e15]; exact ⟨r13.1, r13.2⟩
                refine x_iload hC 0 rfl dX7_link_114 ?_
                refine x_iload_n hC 4 rfl dX7_link_116 ?_
                refine x_icmp_eq (tgt := 124) hC dX7_link_117 (by decide) (fun c28 => ?_) (fun c28 => ?_)
                · have h := h.1 c28
                  refine x_iconst (v := 0) hC dX7_link_124 (by decide) ?_
                  exact x_zret hC hr zb0 dX7_link_125 (by decide) (by decide) ⟨rfl, _, rfl, h⟩
                · have h := h.2 c28
                  refine x_iconst (v := 1) hC dX7_link_120 (by decide) ?_
                  refine x_goto (tgt := 125) hC dX7_link_121 (by decide) ?_
                  exact x_zret hC hr zb1 dX7_link_125 (by decide) (by decide) ⟨rfl, _, rfl, h⟩
          · have h := h.2 c21
            refine x_iconst (v := 0) hC dX7_link_56 (by decide) ?_
            exact x_zret hC hr zb0 dX7_link_57 (by decide) (by decide) ⟨rfl, _, rfl, h⟩
        · have h := h.2 c20
          refine x_iconst (v := 2) hC dX7_link_41 (by decide) ?_
          refine x_goto (tgt := 46) hC dX7_link_42 (by decide) ?_
          refine x_putI (n0 := this) hC (ci := 7) (T := TX7) (N := 36) (C := RX7) 0 k9 rfl rfl (by decide) rfl q689 rfl (tyX7_ok 0 (by decide)) dX7_link_46 ?_
          refine xJ.nmH (fun σ18 e16 => ?_)
          have h := h σ18 e16
          have r18 : hR σ18 = hR σ7 ∧ hL σ18 = hL σ7 := by rw [e16]; exact ⟨rfl, rfl⟩
          refine x_aload_n hC 0 rfl dX7_link_49 ?_
          have k13 : hK σ18 this = 8 := by rw [e16]; exact k9
          refine x_getI (n0 := this) hC (ci := 7) (T := TX7) (N := 36) (C := RX7) 0 k13 rfl rfl (by decide) rfl q689 dX7_link_50 ?_
          refine x_if_le (tgt := 58) hC dX7_link_53 (by decide) (fun c29 => ?_) (fun c29 => ?_)
          · have h := h.1 c29
            refine x_aload_n hC 0 rfl dX7_link_58 ?_
            refine x_getR (n0 := this) hC (ci := 7) (T := TX7) (N := 36) (C := RX7) 24 k13 rfl rfl (by decide) rfl q713 dX7_link_59 ?_
            rw [r18.1]
            refine x_iload_n hC 1 rfl dX7_link_62 ?_
            obtain ⟨m5, hm5, h⟩ := h
            rw [show rv ρ (hR σ7 this 24) = Value.ref (ρ m5) from by rw [hm5]; rfl]
            obtain ⟨k14, h⟩ := h
            obtain ⟨v8, h⟩ := h
            refine x_iald (a := m5) hC k14 (by rw [r18.2]; exact v8) dX7_link_63 ?_
            refine x_iload_n hC 2 rfl dX7_link_64 ?_
            refine x_ishr hC dX7_link_65 ?_
            refine x_iconst (v := 1) hC dX7_link_66 (by decide) ?_
            refine x_iand hC dX7_link_67 ?_
            refine x_iconst (v := 1) hC dX7_link_68 (by decide) ?_
            refine x_icmp_ne (tgt := 76) hC dX7_link_69 (by decide) (fun c30 => ?_) (fun c30 => ?_)
            · have h := h.1 c30
              refine x_iconst (v := 0) hC dX7_link_76 (by decide) ?_
              refine x_istore (L' := [(4, .int 0), (0, .ref (ρ this)), (1, .int p1), (2, .int p2), (3, .int p3)]) hC dX7_link_77 (by decide) (by first | rfl | simp (decide := true) [rv_cat, cat_ref, cat_int]) ?_
              refine x_aload_n hC 1 rfl dX7_link_79 ?_
              refine x_getR (n0 := this) hC (ci := 7) (T := TX7) (N := 36) (C := RX7) 24 k13 rfl rfl (by decide) rfl q713 dX7_link_80 ?_
              rw [r18.1]
              rw [show rv ρ (hR σ7 this 24) = Value.ref (ρ m5) from by rw [hm5]; rfl]
              refine x_iload_n hC 2 rfl dX7_link_83 ?_
              refine x_iload_n hC 4 rfl dX7_link_84 ?_
              refine x_if_eq (tgt := 101) hC dX7_link_85 (by decide) (fun c31 => ?_) (fun c31 => ?_)
              · have h := h.1 c31
                refine x_aload_n hC 1 rfl dX7_link_101 ?_
                refine x_getR (n0 := this) hC (ci := 7) (T := TX7) (N := 36) (C := RX7) 24 k13 rfl rfl (by decide) rfl q713 dX7_link_102 ?_
                rw [r18.1]
                rw [show rv ρ (hR σ7 this 24) = Value.ref (ρ m5) from by rw [hm5]; rfl]
                refine x_iload_n hC 2 rfl dX7_link_105 ?_
                refine x_iald (a := m5) hC k14 (by rw [r18.2]; exact v8) dX7_link_106 ?_
                refine x_iconst (v := 1) hC dX7_link_107 (by decide) ?_
                refine x_iload_n hC 3 rfl dX7_link_108 ?_
                refine x_ishl hC dX7_link_109 ?_
                refine x_iconst (v := (-1)) hC dX7_link_110 (by decide) ?_
                refine x_ixor hC dX7_link_111 ?_
                refine x_iand hC dX7_link_112 ?_
                refine x_iast (a := m5) hC k14 (by rw [r18.2]; exact v8) dX7_link_113 ?_
                refine xJ.nmH (fun σ19 e17 => ?_)
                have h := h σ19 e17
                have r19 : hR σ19 = hR σ7 ∧ hL σ19 = hL σ7 := by rw [e17]; exact ⟨r18.1, r18.2⟩
                refine x_iload hC 0 rfl dX7_link_114 ?_
                refine x_iload_n hC 4 rfl dX7_link_116 ?_
                refine x_icmp_eq (tgt := 124) hC dX7_link_117 (by decide) (fun c32 => ?_) (fun c32 => ?_)
                · have h := h.1 c32
                  refine x_iconst (v := 0) hC dX7_link_124 (by decide) ?_
                  exact x_zret hC hr zb0 dX7_link_125 (by decide) (by decide) ⟨rfl, _, rfl, h⟩
                · have h := h.2 c32
                  refine x_iconst (v := 1) hC dX7_link_120 (by decide) ?_
                  refine x_goto (tgt := 125) hC dX7_link_121 (by decide) ?_
                  exact x_zret hC hr zb1 dX7_link_125 (by decide) (by decide) ⟨rfl, _, rfl, h⟩
              · have h := h.2 c31
                refine x_aload_n hC 1 rfl dX7_link_88 ?_
                refine x_getR (n0 := this) hC (ci := 7) (T := TX7) (N := 36) (C := RX7) 24 k13 rfl rfl (by decide) rfl q713 dX7_link_89 ?_
                rw [r18.1]
                rw [show rv ρ (hR σ7 this 24) = Value.ref (ρ m5) from by rw [hm5]; rfl]
                refine x_iload_n hC 2 rfl dX7_link_92 ?_
                refine x_iald (a := m5) hC k14 (by rw [r18.2]; exact v8) dX7_link_93 ?_
                refine x_iconst (v := 1) hC dX7_link_94 (by decide) ?_
                refine x_iload_n hC 3 rfl dX7_link_95 ?_
                refine x_ishl hC dX7_link_96 ?_
                refine x_ior hC dX7_link_97 ?_
                refine x_goto (tgt := 113) hC dX7_link_98 (by decide) ?_
                refine x_iast (a := m5) hC k14 (by rw [r18.2]; exact v8) dX7_link_113 ?_
                refine xJ.nmH (fun σ20 e18 => ?_)
                have h := h σ20 e18
                have r20 : hR σ20 = hR σ7 ∧ hL σ20 = hL σ7 := by rw [e18]; exact ⟨r18.1, r18.2⟩
                refine x_iload hC 0 rfl dX7_link_114 ?_
                refine x_iload_n hC 4 rfl dX7_link_116 ?_
                refine x_icmp_eq (tgt := 124) hC dX7_link_117 (by decide) (fun c33 => ?_) (fun c33 => ?_)
                · have h := h.1 c33
                  refine x_iconst (v := 0) hC dX7_link_124 (by decide) ?_
                  exact x_zret hC hr zb0 dX7_link_125 (by decide) (by decide) ⟨rfl, _, rfl, h⟩
                · have h := h.2 c33
                  refine x_iconst (v := 1) hC dX7_link_120 (by decide) ?_
                  refine x_goto (tgt := 125) hC dX7_link_121 (by decide) ?_
                  exact x_zret hC hr zb1 dX7_link_125 (by decide) (by decide) ⟨rfl, _, rfl, h⟩
            · have h := h.2 c30
              refine x_iconst (v := 1) hC dX7_link_72 (by decide) ?_
              refine x_goto (tgt := 77) hC dX7_link_73 (by decide) ?_
              refine x_istore (L' := [(4, .int 1), (0, .ref (ρ this)), (1, .int p1), (2, .int p2), (3, .int p3)]) hC dX7_link_77 (by decide) (by first | rfl | simp (decide := true) [rv_cat, cat_ref, cat_int]) ?_
              refine x_aload_n hC 1 rfl dX7_link_79 ?_
              refine x_getR (n0 := this) hC (ci := 7) (T := TX7) (N := 36) (C := RX7) 24 k13 rfl rfl (by decide) rfl q713 dX7_link_80 ?_
              rw [r18.1]
              rw [show rv ρ (hR σ7 this 24) = Value.ref (ρ m5) from by rw [hm5]; rfl]
              refine x_iload_n hC 2 rfl dX7_link_83 ?_
              refine x_iload_n hC 4 rfl dX7_link_84 ?_
              refine x_if_eq (tgt := 101) hC dX7_link_85 (by decide) (fun c34 => ?_) (fun c34 => ?_)
              · have h := h.1 c34
                refine x_aload_n hC 1 rfl dX7_link_101 ?_
                refine x_getR (n0 := this) hC (ci := 7) (T := TX7) (N := 36) (C := RX7) 24 k13 rfl rfl (by decide) rfl q713 dX7_link_102 ?_
                rw [r18.1]
                rw [show rv ρ (hR σ7 this 24) = Value.ref (ρ m5) from by rw [hm5]; rfl]
                refine x_iload_n hC 2 rfl dX7_link_105 ?_
                refine x_iald (a := m5) hC k14 (by rw [r18.2]; exact v8) dX7_link_106 ?_
                refine x_iconst (v := 1) hC dX7_link_107 (by decide) ?_
                refine x_iload_n hC 3 rfl dX7_link_108 ?_
                refine x_ishl hC dX7_link_109 ?_
                refine x_iconst (v := (-1)) hC dX7_link_110 (by decide) ?_
                refine x_ixor hC dX7_link_111 ?_
                refine x_iand hC dX7_link_112 ?_
                refine x_iast (a := m5) hC k14 (by rw [r18.2]; exact v8) dX7_link_113 ?_
                refine xJ.nmH (fun σ21 e19 => ?_)
                have h := h σ21 e19
                have r21 : hR σ21 = hR σ7 ∧ hL σ21 = hL σ7 := by rw [e19]; exact ⟨r18.1, r18.2⟩
                refine x_iload hC 0 rfl dX7_link_114 ?_
                refine x_iload_n hC 4 rfl dX7_link_116 ?_
                refine x_icmp_eq (tgt := 124) hC dX7_link_117 (by decide) (fun c35 => ?_) (fun c35 => ?_)
                · have h := h.1 c35
                  refine x_iconst (v := 0) hC dX7_link_124 (by decide) ?_
                  exact x_zret hC hr zb0 dX7_link_125 (by decide) (by decide) ⟨rfl, _, rfl, h⟩
                · have h := h.2 c35
                  refine x_iconst (v := 1) hC dX7_link_120 (by decide) ?_
                  refine x_goto (tgt := 125) hC dX7_link_121 (by decide) ?_
                  exact x_zret hC hr zb1 dX7_link_125 (by decide) (by decide) ⟨rfl, _, rfl, h⟩
              · have h := h.2 c34
                refine x_aload_n hC 1 rfl dX7_link_88 ?_
                refine x_getR (n0 := this) hC (ci := 7) (T := TX7) (N := 36) (C := RX7) 24 k13 rfl rfl (by decide) rfl q713 dX7_link_89 ?_
                rw [r18.1]
                rw [show rv ρ (hR σ7 this 24) = Value.ref (ρ m5) from by rw [hm5]; rfl]
                refine x_iload_n hC 2 rfl dX7_link_92 ?_
                refine x_iald (a := m5) hC k14 (by rw [r18.2]; exact v8) dX7_link_93 ?_
                refine x_iconst (v := 1) hC dX7_link_94 (by decide) ?_
                refine x_iload_n hC 3 rfl dX7_link_95 ?_
                refine x_ishl hC dX7_link_96 ?_
                refine x_ior hC dX7_link_97 ?_
                refine x_goto (tgt := 113) hC dX7_link_98 (by decide) ?_
                refine x_iast (a := m5) hC k14 (by rw [r18.2]; exact v8) dX7_link_113 ?_
                refine xJ.nmH (fun σ22 e20 => ?_)
                have h := h σ22 e20
                have r22 : hR σ22 = hR σ7 ∧ hL σ22 = hL σ7 := by rw [e20]; exact ⟨r18.1, r18.2⟩
                refine x_iload hC 0 rfl dX7_link_114 ?_
                refine x_iload_n hC 4 rfl dX7_link_116 ?_
                refine x_icmp_eq (tgt := 124) hC dX7_link_117 (by decide) (fun c36 => ?_) (fun c36 => ?_)
                · have h := h.1 c36
                  refine x_iconst (v := 0) hC dX7_link_124 (by decide) ?_
                  exact x_zret hC hr zb0 dX7_link_125 (by decide) (by decide) ⟨rfl, _, rfl, h⟩
                · have h := h.2 c36
                  refine x_iconst (v := 1) hC dX7_link_120 (by decide) ?_
                  refine x_goto (tgt := 125) hC dX7_link_121 (by decide) ?_
                  exact x_zret hC hr zb1 dX7_link_125 (by decide) (by decide) ⟨rfl, _, rfl, h⟩
          · have h := h.2 c29
            refine x_iconst (v := 0) hC dX7_link_56 (by decide) ?_
            exact x_zret hC hr zb0 dX7_link_57 (by decide) (by decide) ⟨rfl, _, rfl, h⟩
    · have h := h.2 c10
      refine x_iconst (v := 1) hC dX7_link_17 (by decide) ?_
      refine x_goto (tgt := 46) hC dX7_link_18 (by decide) ?_
      have k15 : hK σ7 this = 8 := (hag2 this (by rw [k5]; decide)).1.trans k5
      refine x_putI (n0 := this) hC (ci := 7) (T := TX7) (N := 36) (C := RX7) 0 k15 rfl rfl (by decide) rfl q689 rfl (tyX7_ok 0 (by decide)) dX7_link_46 ?_
      refine xJ.nmH (fun σ23 e21 => ?_)
      have h := h σ23 e21
      have r23 : hR σ23 = hR σ7 ∧ hL σ23 = hL σ7 := by rw [e21]; exact ⟨rfl, rfl⟩
      refine x_aload_n hC 0 rfl dX7_link_49 ?_
      have k16 : hK σ23 this = 8 := by rw [e21]; exact k15
      refine x_getI (n0 := this) hC (ci := 7) (T := TX7) (N := 36) (C := RX7) 0 k16 rfl rfl (by decide) rfl q689 dX7_link_50 ?_
      refine x_if_le (tgt := 58) hC dX7_link_53 (by decide) (fun c37 => ?_) (fun c37 => ?_)
      · have h := h.1 c37
        refine x_aload_n hC 0 rfl dX7_link_58 ?_
        refine x_getR (n0 := this) hC (ci := 7) (T := TX7) (N := 36) (C := RX7) 24 k16 rfl rfl (by decide) rfl q713 dX7_link_59 ?_
        rw [r23.1]
        refine x_iload_n hC 1 rfl dX7_link_62 ?_
        obtain ⟨m6, hm6, h⟩ := h
        rw [show rv ρ (hR σ7 this 24) = Value.ref (ρ m6) from by rw [hm6]; rfl]
        obtain ⟨k17, h⟩ := h
        obtain ⟨v9, h⟩ := h
        refine x_iald (a := m6) hC k17 (by rw [r23.2]; exact v9) dX7_link_63 ?_
        refine x_iload_n hC 2 rfl dX7_link_64 ?_
        refine x_ishr hC dX7_link_65 ?_
        refine x_iconst (v := 1) hC dX7_link_66 (by decide) ?_
        refine x_iand hC dX7_link_67 ?_
        refine x_iconst (v := 1) hC dX7_link_68 (by decide) ?_
        refine x_icmp_ne (tgt := 76) hC dX7_link_69 (by decide) (fun c38 => ?_) (fun c38 => ?_)
        · have h := h.1 c38
          refine x_iconst (v := 0) hC dX7_link_76 (by decide) ?_
          refine x_istore (L' := [(4, .int 0), (0, .ref (ρ this)), (1, .int p1), (2, .int p2), (3, .int p3)]) hC dX7_link_77 (by decide) (by first | rfl | simp (decide := true) [rv_cat, cat_ref, cat_int]) ?_
          refine x_aload_n hC 1 rfl dX7_link_79 ?_
          refine x_getR (n0 := this) hC (ci := 7) (T := TX7) (N := 36) (C := RX7) 24 k16 rfl rfl (by decide) rfl q713 dX7_link_80 ?_
          rw [r23.1]
          rw [show rv ρ (hR σ7 this 24) = Value.ref (ρ m6) from by rw [hm6]; rfl]
          refine x_iload_n hC 2 rfl dX7_link_83 ?_
          refine x_iload_n hC 4 rfl dX7_link_84 ?_
          refine x_if_eq (tgt := 101) hC dX7_link_85 (by decide) (fun c39 => ?_) (fun c39 => ?_)
          · have h := h.1 c39
            refine x_aload_n hC 1 rfl dX7_link_101 ?_
            refine x_getR (n0 := this) hC (ci := 7) (T := TX7) (N := 36) (C := RX7) 24 k16 rfl rfl (by decide) rfl q713 dX7_link_102 ?_
            rw [r23.1]
            rw [show rv ρ (hR σ7 this 24) = Value.ref (ρ m6) from by rw [hm6]; rfl]
            refine x_iload_n hC 2 rfl dX7_link_105 ?_
            refine x_iald (a := m6) hC k17 (by rw [r23.2]; exact v9) dX7_link_106 ?_
            refine x_iconst (v := 1) hC dX7_link_107 (by decide) ?_
            refine x_iload_n hC 3 rfl dX7_link_108 ?_
            refine x_ishl hC dX7_link_109 ?_
            refine x_iconst (v := (-1)) hC dX7_link_110 (by decide) ?_
            refine x_ixor hC dX7_link_111 ?_
            refine x_iand hC dX7_link_112 ?_
            refine x_iast (a := m6) hC k17 (by rw [r23.2]; exact v9) dX7_link_113 ?_
            refine xJ.nmH (fun σ24 e22 => ?_)
            have h := h σ24 e22
            have r24 : hR σ24 = hR σ7 ∧ hL σ24 = hL σ7 := by rw [e22]; exact ⟨r23.1, r23.2⟩
            refine x_iload hC 0 rfl dX7_link_114 ?_
            refine x_iload_n hC 4 rfl dX7_link_116 ?_
            refine x_icmp_eq (tgt := 124) hC dX7_link_117 (by decide) (fun c40 => ?_) (fun c40 => ?_)
            · have h := h.1 c40
              refine x_iconst (v := 0) hC dX7_link_124 (by decide) ?_
              exact x_zret hC hr zb0 dX7_link_125 (by decide) (by decide) ⟨rfl, _, rfl, h⟩
            · have h := h.2 c40
              refine x_iconst (v := 1) hC dX7_link_120 (by decide) ?_
              refine x_goto (tgt := 125) hC dX7_link_121 (by decide) ?_
              exact x_zret hC hr zb1 dX7_link_125 (by decide) (by decide) ⟨rfl, _, rfl, h⟩
          · have h := h.2 c39
            refine x_aload_n hC 1 rfl dX7_link_88 ?_
            refine x_getR (n0 := this) hC (ci := 7) (T := TX7) (N := 36) (C := RX7) 24 k16 rfl rfl (by decide) rfl q713 dX7_link_89 ?_
            rw [r23.1]
            rw [show rv ρ (hR σ7 this 24) = Value.ref (ρ m6) from by rw [hm6]; rfl]
            refine x_iload_n hC 2 rfl dX7_link_92 ?_
            refine x_iald (a := m6) hC k17 (by rw [r23.2]; exact v9) dX7_link_93 ?_
            refine x_iconst (v := 1) hC dX7_link_94 (by decide) ?_
            refine x_iload_n hC 3 rfl dX7_link_95 ?_
            refine x_ishl hC dX7_link_96 ?_
            refine x_ior hC dX7_link_97 ?_
            refine x_goto (tgt := 113) hC dX7_link_98 (by decide) ?_
            refine x_iast (a := m6) hC k17 (by rw [r23.2]; exact v9) dX7_link_113 ?_
            refine xJ.nmH (fun σ25 e23 => ?_)
            have h := h σ25 e23
            have r25 : hR σ25 = hR σ7 ∧ hL σ25 = hL σ7 := by rw [e23]; exact ⟨r23.1, r23.2⟩
            refine x_iload hC 0 rfl dX7_link_114 ?_
            refine x_iload_n hC 4 rfl dX7_link_116 ?_
            refine x_icmp_eq (tgt := 124) hC dX7_link_117 (by decide) (fun c41 => ?_) (fun c41 => ?_)
            · have h := h.1 c41
              refine x_iconst (v := 0) hC dX7_link_124 (by decide) ?_
              exact x_zret hC hr zb0 dX7_link_125 (by decide) (by decide) ⟨rfl, _, rfl, h⟩
            · have h := h.2 c41
              refine x_iconst (v := 1) hC dX7_link_120 (by decide) ?_
              refine x_goto (tgt := 125) hC dX7_link_121 (by decide) ?_
              exact x_zret hC hr zb1 dX7_link_125 (by decide) (by decide) ⟨rfl, _, rfl, h⟩
        · have h := h.2 c38
          refine x_iconst (v := 1) hC dX7_link_72 (by decide) ?_
          refine x_goto (tgt := 77) hC dX7_link_73 (by decide) ?_
          refine x_istore (L' := [(4, .int 1), (0, .ref (ρ this)), (1, .int p1), (2, .int p2), (3, .int p3)]) hC dX7_link_77 (by decide) (by first | rfl | simp (decide := true) [rv_cat, cat_ref, cat_int]) ?_
          refine x_aload_n hC 1 rfl dX7_link_79 ?_
          refine x_getR (n0 := this) hC (ci := 7) (T := TX7) (N := 36) (C := RX7) 24 k16 rfl rfl (by decide) rfl q713 dX7_link_80 ?_
          rw [r23.1]
          rw [show rv ρ (hR σ7 this 24) = Value.ref (ρ m6) from by rw [hm6]; rfl]
          refine x_iload_n hC 2 rfl dX7_link_83 ?_
          refine x_iload_n hC 4 rfl dX7_link_84 ?_
          refine x_if_eq (tgt := 101) hC dX7_link_85 (by decide) (fun c42 => ?_) (fun c42 => ?_)
          · have h := h.1 c42
            refine x_aload_n hC 1 rfl dX7_link_101 ?_
            refine x_getR (n0 := this) hC (ci := 7) (T := TX7) (N := 36) (C := RX7) 24 k16 rfl rfl (by decide) rfl q713 dX7_link_102 ?_
            rw [r23.1]
            rw [show rv ρ (hR σ7 this 24) = Value.ref (ρ m6) from by rw [hm6]; rfl]
            refine x_iload_n hC 2 rfl dX7_link_105 ?_
            refine x_iald (a := m6) hC k17 (by rw [r23.2]; exact v9) dX7_link_106 ?_
            refine x_iconst (v := 1) hC dX7_link_107 (by decide) ?_
            refine x_iload_n hC 3 rfl dX7_link_108 ?_
            refine x_ishl hC dX7_link_109 ?_
            refine x_iconst (v := (-1)) hC dX7_link_110 (by decide) ?_
            refine x_ixor hC dX7_link_111 ?_
            refine x_iand hC dX7_link_112 ?_
            refine x_iast (a := m6) hC k17 (by rw [r23.2]; exact v9) dX7_link_113 ?_
            refine xJ.nmH (fun σ26 e24 => ?_)
            have h := h σ26 e24
            have r26 : hR σ26 = hR σ7 ∧ hL σ26 = hL σ7 := by rw [e24]; exact ⟨r23.1, r23.2⟩
            refine x_iload hC 0 rfl dX7_link_114 ?_
            refine x_iload_n hC 4 rfl dX7_link_116 ?_
            refine x_icmp_eq (tgt := 124) hC dX7_link_117 (by decide) (fun c43 => ?_) (fun c43 => ?_)
            · have h := h.1 c43
              refine x_iconst (v := 0) hC dX7_link_124 (by decide) ?_
              exact x_zret hC hr zb0 dX7_link_125 (by decide) (by decide) ⟨rfl, _, rfl, h⟩
            · have h := h.2 c43
              refine x_iconst (v := 1) hC dX7_link_120 (by decide) ?_
              refine x_goto (tgt := 125) hC dX7_link_121 (by decide) ?_
              exact x_zret hC hr zb1 dX7_link_125 (by decide) (by decide) ⟨rfl, _, rfl, h⟩
          · have h := h.2 c42
            refine x_aload_n hC 1 rfl dX7_link_88 ?_
            refine x_getR (n0 := this) hC (ci := 7) (T := TX7) (N := 36) (C := RX7) 24 k16 rfl rfl (by decide) rfl q713 dX7_link_89 ?_
            rw [r23.1]
            rw [show rv ρ (hR σ7 this 24) = Value.ref (ρ m6) from by rw [hm6]; rfl]
            refine x_iload_n hC 2 rfl dX7_link_92 ?_
            refine x_iald (a := m6) hC k17 (by rw [r23.2]; exact v9) dX7_link_93 ?_
            refine x_iconst (v := 1) hC dX7_link_94 (by decide) ?_
            refine x_iload_n hC 3 rfl dX7_link_95 ?_
            refine x_ishl hC dX7_link_96 ?_
            refine x_ior hC dX7_link_97 ?_
            refine x_goto (tgt := 113) hC dX7_link_98 (by decide) ?_
            refine x_iast (a := m6) hC k17 (by rw [r23.2]; exact v9) dX7_link_113 ?_
            refine xJ.nmH (fun σ27 e25 => ?_)
            have h := h σ27 e25
            have r27 : hR σ27 = hR σ7 ∧ hL σ27 = hL σ7 := by rw [e25]; exact ⟨r23.1, r23.2⟩
            refine x_iload hC 0 rfl dX7_link_114 ?_
            refine x_iload_n hC 4 rfl dX7_link_116 ?_
            refine x_icmp_eq (tgt := 124) hC dX7_link_117 (by decide) (fun c44 => ?_) (fun c44 => ?_)
            · have h := h.1 c44
              refine x_iconst (v := 0) hC dX7_link_124 (by decide) ?_
              exact x_zret hC hr zb0 dX7_link_125 (by decide) (by decide) ⟨rfl, _, rfl, h⟩
            · have h := h.2 c44
              refine x_iconst (v := 1) hC dX7_link_120 (by decide) ?_
              refine x_goto (tgt := 125) hC dX7_link_121 (by decide) ?_
              exact x_zret hC hr zb1 dX7_link_125 (by decide) (by decide) ⟨rfl, _, rfl, h⟩
      · have h := h.2 c37
        refine x_iconst (v := 0) hC dX7_link_56 (by decide) ?_
        exact x_zret hC hr zb0 dX7_link_57 (by decide) (by decide) ⟨rfl, _, rfl, h⟩
/-! PlantServer.request -/
theorem dX6_request_0 : decode cX6_request 0 = .ok (.aload_n 0, 1) := by decide +kernel
theorem dX6_request_1 : decode cX6_request 1 = .ok (.getfield 42, 3) := by decide +kernel
theorem dX6_request_4 : decode cX6_request 4 = .ok (.bipush 10, 2) := by decide +kernel
theorem dX6_request_6 : decode cX6_request 6 = .ok (.if_icmp .lt 13, 3) := by decide +kernel
theorem dX6_request_9 : decode cX6_request 9 = .ok (.new 59, 3) := by decide +kernel
theorem dX6_request_12 : decode cX6_request 12 = .ok (.dup, 1) := by decide +kernel
theorem dX6_request_13 : decode cX6_request 13 = .ok (.ldc 127, 2) := by decide +kernel
theorem dX6_request_15 : decode cX6_request 15 = .ok (.invokespecial 63, 3) := by decide +kernel
theorem dX6_request_18 : decode cX6_request 18 = .ok (.athrow, 1) := by decide +kernel
theorem dX6_request_19 : decode cX6_request 19 = .ok (.aload_n 0, 1) := by decide +kernel
theorem dX6_request_20 : decode cX6_request 20 = .ok (.dup, 1) := by decide +kernel
theorem dX6_request_21 : decode cX6_request 21 = .ok (.getfield 42, 3) := by decide +kernel
theorem dX6_request_24 : decode cX6_request 24 = .ok (.iconst 1, 1) := by decide +kernel
theorem dX6_request_25 : decode cX6_request 25 = .ok (.iadd, 1) := by decide +kernel
theorem dX6_request_26 : decode cX6_request 26 = .ok (.putfield 42, 3) := by decide +kernel
theorem dX6_request_29 : decode cX6_request 29 = .ok (.aload_n 0, 1) := by decide +kernel
theorem dX6_request_30 : decode cX6_request 30 = .ok (.getfield 42, 3) := by decide +kernel
theorem dX6_request_33 : decode cX6_request 33 = .ok (.ireturn, 1) := by decide +kernel
abbrev rm6_request : Room := { frames := 6, cells := 1, slots := 6, locals := 90 }
theorem hd6_request : yX6_request.cls ≠ "java/lang/invoke/MethodHandle" ∧ yX6_request.cls ≠ "java/lang/invoke/VarHandle" ∧ (parseMethodDescriptor yX6_request.desc).map (fun d => d.parameters.length) = some 0 := by decide +kernel
set_option maxHeartbeats 4000000 in
set_option maxRecDepth 20000 in
theorem m6_request (l : Launch) (hl : l.stackTraces = false) (G : xG) (ρ : Nm → Nat) (this : Nm) (σ : PH) (Q : Int32 → PH → Prop) (Xp : String → PH → Prop) (h : w6_request this σ Q Xp) : xMet l yX6_request (.code yX6_request cX6_request 1 (some .int)) rm6_request G ρ σ [.ref (ρ this)] (eI ρ Q) Xp := by
  refine xMet.of hl (by decide +kernel) (Nat.le_of_ble_eq_true rfl) (fun X hC hr hn htab h0 => ?_)
  have hC : xC G X "PlantServer" cX6_request 1 rm6_request := hC
  unfold w6_request at h
  refine xJ.loc (L' := [(0, .ref (ρ this))]) rfl ?_
  refine x_aload_n hC 0 rfl dX6_request_0 ?_
  obtain ⟨k1, h⟩ := h
  refine x_getI (n0 := this) hC (ci := 6) (T := TX6) (N := 9) (C := RX6) 7 k1 rfl rfl (by decide) rfl q57 dX6_request_1 ?_
  refine x_bipush (v := 10) hC dX6_request_4 (by decide) ?_
  refine x_icmp_lt (tgt := 19) hC dX6_request_6 (by decide) (fun c1 => ?_) (fun c1 => ?_)
  · have h := h.1 c1
    refine x_aload_n hC 0 rfl dX6_request_19 ?_
    refine x_dup hC (by first | rfl | exact rv_cat) dX6_request_20 ?_
    refine x_getI (n0 := this) hC (ci := 6) (T := TX6) (N := 9) (C := RX6) 7 k1 rfl rfl (by decide) rfl q57 dX6_request_21 ?_
    refine x_iconst (v := 1) hC dX6_request_24 (by decide) ?_
    refine x_iadd hC dX6_request_25 ?_
    refine x_putI (n0 := this) hC (ci := 6) (T := TX6) (N := 9) (C := RX6) 7 k1 rfl rfl (by decide) rfl q57 rfl (tyX6_ok 7 (by decide)) dX6_request_26 ?_
    refine xJ.nmH (fun σ1 e1 => ?_)
    have h := h σ1 e1
    have r1 : hR σ1 = hR σ ∧ hL σ1 = hL σ := by rw [e1]; exact ⟨rfl, rfl⟩
    refine x_aload_n hC 0 rfl dX6_request_29 ?_
    have k2 : hK σ1 this = 7 := by rw [e1]; exact k1
    refine x_getI (n0 := this) hC (ci := 6) (T := TX6) (N := 9) (C := RX6) 7 k2 rfl rfl (by decide) rfl q57 dX6_request_30 ?_
    exact x_iret hC hr dX6_request_33 (by decide) (by decide) ⟨rfl, _, rfl, h⟩
  · have h := h.2 c1
    exact x_throw (E := xIS) (text := "10 requests wait") (is := 127) hC h0 htab (by decide +kernel) (by decide +kernel) q198 q9 xhat_xIS xgood_xIS dX6_request_9 dX6_request_12 dX6_request_13 dX6_request_15 dX6_request_18 (by decide) (by first | exact Nat.le_of_ble_eq_true rfl | (simp [rv_cat]; done) | (simp (decide := true) [rv_cat, cat_ref, cat_int]; done)) (by decide) (by decide) h
