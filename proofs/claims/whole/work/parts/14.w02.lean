/-! PlantServer.open -/
theorem dX6_open_0 : decode cX6_open 0 = .ok (.iload_n 1, 1) := by decide +kernel
theorem dX6_open_1 : decode cX6_open 1 = .ok (.iconst 1, 1) := by decide +kernel
theorem dX6_open_2 : decode cX6_open 2 = .ok (.bipush 20, 2) := by decide +kernel
theorem dX6_open_4 : decode cX6_open 4 = .ok (.invokestatic 52, 3) := by decide +kernel
theorem dX6_open_7 : decode cX6_open 7 = .ok (.iload_n 2, 1) := by decide +kernel
theorem dX6_open_8 : decode cX6_open 8 = .ok (.iconst 1, 1) := by decide +kernel
theorem dX6_open_9 : decode cX6_open 9 = .ok (.bipush 10, 2) := by decide +kernel
theorem dX6_open_11 : decode cX6_open 11 = .ok (.invokestatic 52, 3) := by decide +kernel
theorem dX6_open_14 : decode cX6_open 14 = .ok (.iload_n 3, 1) := by decide +kernel
theorem dX6_open_15 : decode cX6_open 15 = .ok (.iconst 1, 1) := by decide +kernel
theorem dX6_open_16 : decode cX6_open 16 = .ok (.bipush 30, 2) := by decide +kernel
theorem dX6_open_18 : decode cX6_open 18 = .ok (.invokestatic 52, 3) := by decide +kernel
theorem dX6_open_21 : decode cX6_open 21 = .ok (.iload 4, 2) := by decide +kernel
theorem dX6_open_23 : decode cX6_open 23 = .ok (.iconst 0, 1) := by decide +kernel
theorem dX6_open_24 : decode cX6_open 24 = .ok (.bipush 9, 2) := by decide +kernel
theorem dX6_open_26 : decode cX6_open 26 = .ok (.invokestatic 52, 3) := by decide +kernel
theorem dX6_open_29 : decode cX6_open 29 = .ok (.iload 5, 2) := by decide +kernel
theorem dX6_open_31 : decode cX6_open 31 = .ok (.iconst 1, 1) := by decide +kernel
theorem dX6_open_32 : decode cX6_open 32 = .ok (.bipush 10, 2) := by decide +kernel
theorem dX6_open_34 : decode cX6_open 34 = .ok (.invokestatic 52, 3) := by decide +kernel
theorem dX6_open_37 : decode cX6_open 37 = .ok (.aload_n 0, 1) := by decide +kernel
theorem dX6_open_38 : decode cX6_open 38 = .ok (.getfield 35, 3) := by decide +kernel
theorem dX6_open_41 : decode cX6_open 41 = .ok (.iconst 4, 1) := by decide +kernel
theorem dX6_open_42 : decode cX6_open 42 = .ok (.if_icmp .lt 13, 3) := by decide +kernel
theorem dX6_open_45 : decode cX6_open 45 = .ok (.new 59, 3) := by decide +kernel
theorem dX6_open_48 : decode cX6_open 48 = .ok (.dup, 1) := by decide +kernel
theorem dX6_open_49 : decode cX6_open 49 = .ok (.ldc 61, 2) := by decide +kernel
theorem dX6_open_51 : decode cX6_open 51 = .ok (.invokespecial 63, 3) := by decide +kernel
theorem dX6_open_54 : decode cX6_open 54 = .ok (.athrow, 1) := by decide +kernel
theorem dX6_open_55 : decode cX6_open 55 = .ok (.aload_n 0, 1) := by decide +kernel
theorem dX6_open_56 : decode cX6_open 56 = .ok (.getfield 35, 3) := by decide +kernel
theorem dX6_open_59 : decode cX6_open 59 = .ok (.istore 6, 2) := by decide +kernel
theorem dX6_open_61 : decode cX6_open 61 = .ok (.new 13, 3) := by decide +kernel
theorem dX6_open_64 : decode cX6_open 64 = .ok (.dup, 1) := by decide +kernel
theorem dX6_open_65 : decode cX6_open 65 = .ok (.iload_n 1, 1) := by decide +kernel
theorem dX6_open_66 : decode cX6_open 66 = .ok (.iload_n 2, 1) := by decide +kernel
theorem dX6_open_67 : decode cX6_open 67 = .ok (.iload_n 3, 1) := by decide +kernel
theorem dX6_open_68 : decode cX6_open 68 = .ok (.iload 4, 2) := by decide +kernel
theorem dX6_open_70 : decode cX6_open 70 = .ok (.iload 5, 2) := by decide +kernel
theorem dX6_open_72 : decode cX6_open 72 = .ok (.invokespecial 66, 3) := by decide +kernel
theorem dX6_open_75 : decode cX6_open 75 = .ok (.astore 7, 2) := by decide +kernel
theorem dX6_open_77 : decode cX6_open 77 = .ok (.aload_n 0, 1) := by decide +kernel
theorem dX6_open_78 : decode cX6_open 78 = .ok (.getfield 15, 3) := by decide +kernel
theorem dX6_open_81 : decode cX6_open 81 = .ok (.iload 6, 2) := by decide +kernel
theorem dX6_open_83 : decode cX6_open 83 = .ok (.aload 7, 2) := by decide +kernel
theorem dX6_open_85 : decode cX6_open 85 = .ok (.aastore, 1) := by decide +kernel
theorem dX6_open_86 : decode cX6_open 86 = .ok (.aload_n 0, 1) := by decide +kernel
theorem dX6_open_87 : decode cX6_open 87 = .ok (.aload 7, 2) := by decide +kernel
theorem dX6_open_89 : decode cX6_open 89 = .ok (.iload 6, 2) := by decide +kernel
theorem dX6_open_91 : decode cX6_open 91 = .ok (.invokevirtual 69, 3) := by decide +kernel
theorem dX6_open_94 : decode cX6_open 94 = .ok (.aload_n 0, 1) := by decide +kernel
theorem dX6_open_95 : decode cX6_open 95 = .ok (.dup, 1) := by decide +kernel
theorem dX6_open_96 : decode cX6_open 96 = .ok (.getfield 35, 3) := by decide +kernel
theorem dX6_open_99 : decode cX6_open 99 = .ok (.iconst 1, 1) := by decide +kernel
theorem dX6_open_100 : decode cX6_open 100 = .ok (.iadd, 1) := by decide +kernel
theorem dX6_open_101 : decode cX6_open 101 = .ok (.putfield 35, 3) := by decide +kernel
theorem dX6_open_104 : decode cX6_open 104 = .ok (.iload 6, 2) := by decide +kernel
theorem dX6_open_106 : decode cX6_open 106 = .ok (.ireturn, 1) := by decide +kernel
abbrev rm6_open : Room := { frames := 7, cells := 9, slots := 67, locals := 112 }
theorem hd6_open : yX6_open.cls ≠ "java/lang/invoke/MethodHandle" ∧ yX6_open.cls ≠ "java/lang/invoke/VarHandle" ∧ (parseMethodDescriptor yX6_open.desc).map (fun d => d.parameters.length) = some 5 := by decide +kernel
set_option maxHeartbeats 4000000 in
set_option maxRecDepth 20000 in
theorem m6_open (l : Launch) (hl : l.stackTraces = false) (G : xG) (ρ : Nm → Nat) (this : Nm) (p1 : Int32) (p2 : Int32) (p3 : Int32) (p4 : Int32) (p5 : Int32) (σ : PH) (Q : Int32 → PH → Prop) (Xp : String → PH → Prop) (h : w6_open this p1 p2 p3 p4 p5 σ Q Xp) : xMet l yX6_open (.code yX6_open cX6_open 8 (some .int)) rm6_open G ρ σ [.ref (ρ this), .int p1, .int p2, .int p3, .int p4, .int p5] (eIA Q) Xp := by
  refine xMet.of hl (by decide +kernel) (Nat.le_of_ble_eq_true rfl) (fun X hC hr hn htab h0 => ?_)
  have hC : xC G X "PlantServer" cX6_open 8 rm6_open := hC
  unfold w6_open at h
  refine xJ.loc (L' := [(0, .ref (ρ this)), (1, .int p1), (2, .int p2), (3, .int p3), (4, .int p4), (5, .int p5)]) rfl ?_
  refine x_iload_n hC 1 rfl dX6_open_0 ?_
  refine x_iconst (v := 1) hC dX6_open_1 (by decide) ?_
  refine x_bipush (v := 20) hC dX6_open_2 (by decide) ?_
  refine x_callS (as := [.int p1, .int 1, .int 20]) (rest := []) hC (fun l hl => m6_checkRange l hl G ρ p1 1 20 σ _ Xp h) q167 q168 q1 q169 hd6_checkRange (by decide) ⟨(by decide), (by decide)⟩ (by first | exact Nat.le_of_ble_eq_true rfl | (simp [rv_cat]; done) | (simp (decide := true) [rv_cat, cat_ref, cat_int]; done)) rfl dX6_open_4 (fun E σ9 hx => x_out hC h0 htab (by decide) (by decide) hx) (fun v1 σ1 ρ1 hp1 hag1 => ?_)
  obtain ⟨e9, e8, h⟩ := hp1
  rw [e8, e9]
  refine xJ.nrm (k' := 1) (n' := 6) (pc' := 7) (st' := []) rfl rfl rfl rfl ?_
  refine x_iload_n hC 2 rfl dX6_open_7 ?_
  refine x_iconst (v := 1) hC dX6_open_8 (by decide) ?_
  refine x_bipush (v := 10) hC dX6_open_9 (by decide) ?_
  refine x_callS (as := [.int p2, .int 1, .int 10]) (rest := []) hC (fun l hl => m6_checkRange l hl G ρ p2 1 10 σ1 _ Xp h) q167 q168 q1 q169 hd6_checkRange (by decide) ⟨(by decide), (by decide)⟩ (by first | exact Nat.le_of_ble_eq_true rfl | (simp [rv_cat]; done) | (simp (decide := true) [rv_cat, cat_ref, cat_int]; done)) rfl dX6_open_11 (fun E σ9 hx => x_out hC h0 htab (by decide) (by decide) hx) (fun v2 σ2 ρ2 hp2 hag2 => ?_)
  obtain ⟨e9, e8, h⟩ := hp2
  rw [e8, e9]
  refine xJ.nrm (k' := 2) (n' := 12) (pc' := 14) (st' := []) rfl rfl rfl rfl ?_
  refine x_iload_n hC 3 rfl dX6_open_14 ?_
  refine x_iconst (v := 1) hC dX6_open_15 (by decide) ?_
  refine x_bipush (v := 30) hC dX6_open_16 (by decide) ?_
  refine x_callS (as := [.int p3, .int 1, .int 30]) (rest := []) hC (fun l hl => m6_checkRange l hl G ρ p3 1 30 σ2 _ Xp h) q167 q168 q1 q169 hd6_checkRange (by decide) ⟨(by decide), (by decide)⟩ (by first | exact Nat.le_of_ble_eq_true rfl | (simp [rv_cat]; done) | (simp (decide := true) [rv_cat, cat_ref, cat_int]; done)) rfl dX6_open_18 (fun E σ9 hx => x_out hC h0 htab (by decide) (by decide) hx) (fun v3 σ3 ρ3 hp3 hag3 => ?_)
  obtain ⟨e9, e8, h⟩ := hp3
  rw [e8, e9]
  refine xJ.nrm (k' := 3) (n' := 18) (pc' := 21) (st' := []) rfl rfl rfl rfl ?_
  refine x_iload hC 4 rfl dX6_open_21 ?_
  refine x_iconst (v := 0) hC dX6_open_23 (by decide) ?_
  refine x_bipush (v := 9) hC dX6_open_24 (by decide) ?_
  refine x_callS (as := [.int p4, .int 0, .int 9]) (rest := []) hC (fun l hl => m6_checkRange l hl G ρ p4 0 9 σ3 _ Xp h) q167 q168 q1 q169 hd6_checkRange (by decide) ⟨(by decide), (by decide)⟩ (by first | exact Nat.le_of_ble_eq_true rfl | (simp [rv_cat]; done) | (simp (decide := true) [rv_cat, cat_ref, cat_int]; done)) rfl dX6_open_26 (fun E σ9 hx => x_out hC h0 htab (by decide) (by decide) hx) (fun v4 σ4 ρ4 hp4 hag4 => ?_)
  obtain ⟨e9, e8, h⟩ := hp4
  rw [e8, e9]
  refine xJ.nrm (k' := 4) (n' := 24) (pc' := 29) (st' := []) rfl rfl rfl rfl ?_
  refine x_iload hC 5 rfl dX6_open_29 ?_
  refine x_iconst (v := 1) hC dX6_open_31 (by decide) ?_
  refine x_bipush (v := 10) hC dX6_open_32 (by decide) ?_
  refine x_callS (as := [.int p5, .int 1, .int 10]) (rest := []) hC (fun l hl => m6_checkRange l hl G ρ p5 1 10 σ4 _ Xp h) q167 q168 q1 q169 hd6_checkRange (by decide) ⟨(by decide), (by decide)⟩ (by first | exact Nat.le_of_ble_eq_true rfl | (simp [rv_cat]; done) | (simp (decide := true) [rv_cat, cat_ref, cat_int]; done)) rfl dX6_open_34 (fun E σ9 hx => x_out hC h0 htab (by decide) (by decide) hx) (fun v5 σ5 ρ5 hp5 hag5 => ?_)
  obtain ⟨e9, e8, h⟩ := hp5
  rw [e8, e9]
  refine xJ.nrm (k' := 5) (n' := 30) (pc' := 37) (st' := []) rfl rfl rfl rfl ?_
  refine x_aload_n hC 0 rfl dX6_open_37 ?_
  obtain ⟨k1, h⟩ := h
  refine x_getI (n0 := this) hC (ci := 6) (T := TX6) (N := 9) (C := RX6) 5 k1 rfl rfl (by decide) rfl q55 dX6_open_38 ?_
  refine x_iconst (v := 4) hC dX6_open_41 (by decide) ?_
  refine x_icmp_lt (tgt := 55) hC dX6_open_42 (by decide) (fun c1 => ?_) (fun c1 => ?_)
  · have h := h.1 c1
    refine x_aload_n hC 0 rfl dX6_open_55 ?_
    refine x_getI (n0 := this) hC (ci := 6) (T := TX6) (N := 9) (C := RX6) 5 k1 rfl rfl (by decide) rfl q55 dX6_open_56 ?_
    refine x_istore (L' := [(6, .int (hI σ5 this 5)), (0, .ref (ρ this)), (1, .int p1), (2, .int p2), (3, .int p3), (4, .int p4), (5, .int p5)]) hC dX6_open_59 (by decide) (by first | rfl | simp (decide := true) [rv_cat, cat_ref, cat_int]) ?_
    obtain ⟨n1, hz1, h⟩ := h
    refine x_new (ci := 4) (T := TX4) (N := 14) (C := RX4) hC n1 hz1 rfl xdf4 q25 q214 q10 (by decide) (by decide) dX6_open_61 (fun ρ6 hρ1 => ?_)
    rw [← hρ1 this (by rw [k1]; decide)]
    refine xJ.nmH (fun σ6 e1 => ?_)
    have h := h σ6 e1
    have k2 : hK σ6 n1 = 5 := by rw [e1]; exact sN_c
    refine x_dup hC (by first | rfl | exact rv_cat) dX6_open_64 ?_
    refine x_iload_n hC 2 rfl dX6_open_65 ?_
    refine x_iload_n hC 3 rfl dX6_open_66 ?_
    refine x_iload_n hC 4 rfl dX6_open_67 ?_
    refine x_iload hC 5 rfl dX6_open_68 ?_
    refine x_iload hC 6 rfl dX6_open_70 ?_
    have k3 : hK σ6 this = 7 := by rw [e1]; exact sN_k hz1 k1 (by decide)
    refine xJ.sub (L' := [(6, .int (hI σ5 this 5)), (0, .ref (ρ6 this))]) [0, 1] rfl ?_
    refine x_callI (as := [.int p1, .int p2, .int p3, .int p4, .int p5]) (rest := [.ref (ρ6 n1)]) hC (fun l hl => m4_init l hl G ρ6 n1 p1 p2 p3 p4 p5 σ6 _ h) q215 q216 q10 q217 rfl hd4_init (by decide) ⟨(by decide), (by decide)⟩ (by first | exact Nat.le_of_ble_eq_true rfl | (simp [rv_cat]; done) | (simp (decide := true) [rv_cat, cat_ref, cat_int]; done)) rfl dX6_open_72 (fun E σ9 hx => False.elim hx) (fun v6 σ7 ρ7 hp6 hag6 => ?_)
    obtain ⟨e8, h⟩ := hp6
    rw [e8]
    rw [← (hag6 this (by rw [k3]; decide)).2, ← (hag6 n1 (by rw [k2]; decide)).2]
    refine xJ.nrm (k' := 9) (n' := 67) (pc' := 75) (st' := [.ref (ρ7 n1)]) rfl rfl rfl rfl ?_
    refine x_astore (L' := [(7, .ref (ρ7 n1)), (6, .int (hI σ5 this 5)), (0, .ref (ρ7 this))]) hC dX6_open_75 (by decide) (by first | rfl | simp (decide := true) [rv_cat, cat_ref, cat_int]) ?_
    refine x_aload_n hC 2 rfl dX6_open_77 ?_
    have k4 : hK σ7 this = 7 := (hag6 this (by rw [k3]; decide)).1.trans k3
    refine x_getR (n0 := this) hC (ci := 6) (T := TX6) (N := 9) (C := RX6) 1 k4 rfl rfl (by decide) rfl q51 dX6_open_78 ?_
    refine x_iload hC 1 rfl dX6_open_81 ?_
    refine x_aload hC 0 rfl dX6_open_83 ?_
    obtain ⟨m1, hm1, h⟩ := h
    rw [show rv ρ7 (hR σ7 this 1) = Value.ref (ρ7 m1) from by rw [hm1]; rfl]
    obtain ⟨k5, h⟩ := h
    obtain ⟨v7, h⟩ := h
    have k6 : hK σ7 n1 = 5 := (hag6 n1 (by rw [k2]; decide)).1.trans k2
    refine x_aast13 (a := m1) (o := some n1) hC (fun m hm => by cases hm; exact k6) k5 v7 dX6_open_85 ?_
    refine xJ.nmH (fun σ8 e2 => ?_)
    have h := h σ8 e2
    have r1 : hR σ8 = hR σ8 ∧ hL σ8 = hL σ7 := by rw [e2]; exact ⟨rfl, rfl⟩
    refine x_aload_n hC 2 rfl dX6_open_86 ?_
    refine x_aload hC 0 rfl dX6_open_87 ?_
    refine x_iload hC 1 rfl dX6_open_89 ?_
    have k7 : hK σ8 this = 7 := by rw [e2]; exact k4
    refine x_callV (n0 := this) (as := [.ref (ρ7 n1), .int (hI σ5 this 5)]) (rest := []) hC (ci := 6) (r := (RX6, TX6, 9)) k7 rfl (fun l hl => m6_putInTurn l hl G ρ7 this n1 (hI σ5 this 5) σ8 _ h) q285 q287 s1 q1 q288 ⟨rfl, hd6_putInTurn⟩ (by decide) ⟨(by decide), (by decide)⟩ (by first | exact Nat.le_of_ble_eq_true rfl | (simp [rv_cat]; done) | (simp (decide := true) [rv_cat, cat_ref, cat_int]; done)) rfl dX6_open_91 (fun E σ9 hx => False.elim hx) (fun v8 σ9 ρ8 hp7 hag7 => ?_)
    obtain ⟨e9, e8, h⟩ := hp7
    rw [e8, e9]
    refine xJ.nrm (k' := 9) (n' := 67) (pc' := 94) (st' := []) rfl rfl rfl rfl ?_
    refine x_aload_n hC 2 rfl dX6_open_94 ?_
    refine x_dup hC (by first | rfl | exact rv_cat) dX6_open_95 ?_
    have k8 : hK σ9 this = 7 := (hag7 this (by rw [k7]; decide)).1.trans k7
    refine x_getI (n0 := this) hC (ci := 6) (T := TX6) (N := 9) (C := RX6) 5 k8 rfl rfl (by decide) rfl q55 dX6_open_96 ?_
    refine x_iconst (v := 1) hC dX6_open_99 (by decide) ?_
    refine x_iadd hC dX6_open_100 ?_
    refine x_putI (n0 := this) hC (ci := 6) (T := TX6) (N := 9) (C := RX6) 5 k8 rfl rfl (by decide) rfl q55 rfl (tyX6_ok 5 (by decide)) dX6_open_101 ?_
    refine xJ.nmH (fun σ10 e3 => ?_)
    have h := h σ10 e3
    have r2 : hR σ10 = hR σ9 ∧ hL σ10 = hL σ9 := by rw [e3]; exact ⟨rfl, rfl⟩
    refine x_iload hC 1 rfl dX6_open_104 ?_
    exact x_iret hC hr dX6_open_106 (by decide) (by decide) ⟨_, rfl, h⟩
  · have h := h.2 c1
    exact x_throw (E := xIS) (text := "there were 4 subscriptions") (is := 61) hC h0 htab (by decide +kernel) (by decide +kernel) q198 q9 xhat_xIS xgood_xIS dX6_open_45 dX6_open_48 dX6_open_49 dX6_open_51 dX6_open_54 (by decide) (by first | exact Nat.le_of_ble_eq_true rfl | (simp [rv_cat]; done) | (simp (decide := true) [rv_cat, cat_ref, cat_int]; done)) (by decide) (by decide) h
/-! PlantServerLaw.open -/
theorem dL_open_0 : decode cL_open 0 = .ok (.aload 6, 2) := by decide +kernel
theorem dL_open_2 : decode cL_open 2 = .ok (.iconst 0, 1) := by decide +kernel
theorem dL_open_3 : decode cL_open 3 = .ok (.aload_n 0, 1) := by decide +kernel
theorem dL_open_4 : decode cL_open 4 = .ok (.iload_n 1, 1) := by decide +kernel
theorem dL_open_5 : decode cL_open 5 = .ok (.iload_n 2, 1) := by decide +kernel
theorem dL_open_6 : decode cL_open 6 = .ok (.iload_n 3, 1) := by decide +kernel
theorem dL_open_7 : decode cL_open 7 = .ok (.iload 4, 2) := by decide +kernel
theorem dL_open_9 : decode cL_open 9 = .ok (.iload 5, 2) := by decide +kernel
theorem dL_open_11 : decode cL_open 11 = .ok (.invokevirtual 17, 3) := by decide +kernel
theorem dL_open_14 : decode cL_open 14 = .ok (.i2l, 1) := by decide +kernel
theorem dL_open_15 : decode cL_open 15 = .ok (.lastore, 1) := by decide +kernel
theorem dL_open_16 : decode cL_open 16 = .ok (.goto 11, 3) := by decide +kernel
theorem dL_open_19 : decode cL_open 19 = .ok (.astore 7, 2) := by decide +kernel
theorem dL_open_21 : decode cL_open 21 = .ok (.iconst 1, 1) := by decide +kernel
theorem dL_open_22 : decode cL_open 22 = .ok (.ireturn, 1) := by decide +kernel
theorem dL_open_23 : decode cL_open 23 = .ok (.astore 7, 2) := by decide +kernel
theorem dL_open_25 : decode cL_open 25 = .ok (.iconst 2, 1) := by decide +kernel
theorem dL_open_26 : decode cL_open 26 = .ok (.ireturn, 1) := by decide +kernel
theorem dL_open_27 : decode cL_open 27 = .ok (.iconst 0, 1) := by decide +kernel
theorem dL_open_28 : decode cL_open 28 = .ok (.ireturn, 1) := by decide +kernel
abbrev rmL_open : Room := { frames := 8, cells := 9, slots := 67, locals := 139 }
theorem hdL_open : yL_open.cls ≠ "java/lang/invoke/MethodHandle" ∧ yL_open.cls ≠ "java/lang/invoke/VarHandle" ∧ (parseMethodDescriptor yL_open.desc).map (fun d => d.parameters.length) = some 7 := by decide +kernel
set_option maxHeartbeats 4000000 in
set_option maxRecDepth 20000 in
theorem mL_open (l : Launch) (hl : l.stackTraces = false) (G : xG) (ρ : Nm → Nat) (a1 : Nm) (p2 : Int32) (p3 : Int32) (p4 : Int32) (p5 : Int32) (p6 : Int32) (a7 : Nm) (σ : PH) (Q : Int32 → PH → Prop) (h : wL_open a1 p2 p3 p4 p5 p6 a7 σ Q) : xMet l yL_open (.codeWith yL_open cL_open 8 (some .int) [(0, 16, 19, 15), (0, 16, 23, 21)]) rmL_open G ρ σ [.ref (ρ a1), .int p2, .int p3, .int p4, .int p5, .int p6, .ref (ρ a7)] (eIA Q) xNo := by
  refine xMet.ofW hl (by decide +kernel) (Nat.le_of_ble_eq_true rfl) (fun X hC hr hn htab h0 => ?_)
  have hC : xC G X "PlantServerLaw" cL_open 8 rmL_open := hC
  unfold wL_open at h
  refine xJ.loc (L' := [(0, .ref (ρ a1)), (1, .int p2), (2, .int p3), (3, .int p4), (4, .int p5), (5, .int p6), (6, .ref (ρ a7))]) rfl ?_
  refine x_aload hC 6 rfl dL_open_0 ?_
  refine x_iconst (v := 0) hC dL_open_2 (by decide) ?_
  refine x_aload_n hC 0 rfl dL_open_3 ?_
  refine x_iload_n hC 1 rfl dL_open_4 ?_
  refine x_iload_n hC 2 rfl dL_open_5 ?_
  refine x_iload_n hC 3 rfl dL_open_6 ?_
  refine x_iload hC 4 rfl dL_open_7 ?_
  refine x_iload hC 5 rfl dL_open_9 ?_
  obtain ⟨k1, h⟩ := h
  obtain ⟨z1, h⟩ := h
  refine xJ.sub (L' := []) [] rfl ?_
  refine x_callV (n0 := a1) (as := [.int p2, .int p3, .int p4, .int p5, .int p6]) (rest := [.int 0, .ref (ρ a7)]) hC (ci := 6) (r := (RX6, TX6, 9)) k1 rfl (fun l hl => m6_open l hl G ρ a1 p2 p3 p4 p5 p6 σ _ _ h) q194 q195 q196 q1 q197 ⟨rfl, hd6_open⟩ (by decide) ⟨(by decide), (by decide)⟩ (by first | exact Nat.le_of_ble_eq_true rfl | (simp [rv_cat]; done) | (simp (decide := true) [rv_cat, cat_ref, cat_int]; done)) rfl dL_open_11 (fun E σ2 hx => ?_) (fun v1 σ1 ρ1 hp1 hag1 => ?_)
  · have hE9 := hx.2.2
    rcases hE9 with he | he
    · have h := hx.1 he
      subst he
      refine x_catch hC [] [(0, 16, 23, 21)] (0, 16, 19, 15) htab (by intro z hz; simp at hz) (by decide) (by decide) q90 xcast_xIA (fun qx1 => ?_)
      refine xJ.nrm (k' := 9) (n' := 67) (pc' := 19) (st' := [.ref qx1]) rfl rfl rfl rfl ?_
      refine x_astore (L' := [(7, .ref qx1)]) hC dL_open_19 (by decide) (by first | rfl | simp (decide := true) [rv_cat, cat_ref, cat_int]) ?_
      refine x_iconst (v := 1) hC dL_open_21 (by decide) ?_
      exact x_iret hC hr dL_open_22 (by decide) (by decide) ⟨_, rfl, h⟩
    · have h := hx.2.1 he
      subst he
      refine x_catch hC [(0, 16, 19, 15)] [] (0, 16, 23, 21) htab (xpass1 (E := xIS) q90 (by decide) (by decide +kernel)) (by decide) (by decide) q193 xcast_xIS (fun qx2 => ?_)
      refine xJ.nrm (k' := 9) (n' := 67) (pc' := 23) (st' := [.ref qx2]) rfl rfl rfl rfl ?_
      refine x_astore (L' := [(7, .ref qx2)]) hC dL_open_23 (by decide) (by first | rfl | simp (decide := true) [rv_cat, cat_ref, cat_int]) ?_
      refine x_iconst (v := 2) hC dL_open_25 (by decide) ?_
      exact x_iret hC hr dL_open_26 (by decide) (by decide) ⟨_, rfl, h⟩
  · obtain ⟨r1, e8, h⟩ := hp1
    rw [e8]
    rw [← (hag1 a7 z1).2]
    refine xJ.nrm (k' := 9) (n' := 67) (pc' := 14) (st' := [.int r1, .int 0, .ref (ρ1 a7)]) rfl rfl rfl rfl ?_
    refine x_i2l hC dL_open_14 ?_
    obtain ⟨k2, h⟩ := h
    obtain ⟨v2, h⟩ := h
    refine x_last (a := a7) hC k2 v2 dL_open_15 ?_
    refine xJ.nmH (fun σ3 e1 => ?_)
    have h := h σ3 e1
    have r2 : hR σ3 = hR σ1 ∧ hL σ3 = hL σ1 := by rw [e1]; exact ⟨rfl, rfl⟩
    refine x_goto (tgt := 27) hC dL_open_16 (by decide) ?_
    refine x_iconst (v := 0) hC dL_open_27 (by decide) ?_
    exact x_iret hC hr dL_open_28 (by decide) (by decide) ⟨_, rfl, h⟩
