/-! PlantServer$History.<init> -/
theorem dX0_init_0 : decode cX0_init 0 = .ok (.aload_n 0, 1) := by decide +kernel
theorem dX0_init_1 : decode cX0_init 1 = .ok (.invokespecial 3, 3) := by decide +kernel
theorem dX0_init_4 : decode cX0_init 4 = .ok (.aload_n 0, 1) := by decide +kernel
theorem dX0_init_5 : decode cX0_init 5 = .ok (.sipush 512, 3) := by decide +kernel
theorem dX0_init_8 : decode cX0_init 8 = .ok (.newarray .int, 2) := by decide +kernel
theorem dX0_init_10 : decode cX0_init 10 = .ok (.putfield 9, 3) := by decide +kernel
theorem dX0_init_13 : decode cX0_init 13 = .ok (.aload_n 0, 1) := by decide +kernel
theorem dX0_init_14 : decode cX0_init 14 = .ok (.sipush 512, 3) := by decide +kernel
theorem dX0_init_17 : decode cX0_init 17 = .ok (.newarray .int, 2) := by decide +kernel
theorem dX0_init_19 : decode cX0_init 19 = .ok (.putfield 15, 3) := by decide +kernel
theorem dX0_init_22 : decode cX0_init 22 = .ok (.aload_n 0, 1) := by decide +kernel
theorem dX0_init_23 : decode cX0_init 23 = .ok (.sipush 512, 3) := by decide +kernel
theorem dX0_init_26 : decode cX0_init 26 = .ok (.newarray .int, 2) := by decide +kernel
theorem dX0_init_28 : decode cX0_init 28 = .ok (.putfield 18, 3) := by decide +kernel
theorem dX0_init_31 : decode cX0_init 31 = .ok (.aload_n 0, 1) := by decide +kernel
theorem dX0_init_32 : decode cX0_init 32 = .ok (.iconst 0, 1) := by decide +kernel
theorem dX0_init_33 : decode cX0_init 33 = .ok (.putfield 21, 3) := by decide +kernel
theorem dX0_init_36 : decode cX0_init 36 = .ok (.return_, 1) := by decide +kernel
abbrev rm0_init : Room := { frames := 1, cells := 3, slots := 1536, locals := 20 }
theorem hd0_init : yX0_init.cls ≠ "java/lang/invoke/MethodHandle" ∧ yX0_init.cls ≠ "java/lang/invoke/VarHandle" ∧ (parseMethodDescriptor yX0_init.desc).map (fun d => d.parameters.length) = some 0 := by decide +kernel
set_option maxHeartbeats 4000000 in
set_option maxRecDepth 20000 in
theorem m0_init (l : Launch) (hl : l.stackTraces = false) (G : xG) (ρ : Nm → Nat) (this : Nm) (σ : PH) (Q : PH → Prop) (h : w0_init this σ Q) : xMet l yX0_init (.code yX0_init cX0_init 1 none) rm0_init G ρ σ [.ref (ρ this)] (eVA Q) xNo := by
  refine xMet.of hl (by decide +kernel) (Nat.le_of_ble_eq_true rfl) (fun X hC hr hn htab h0 => ?_)
  have hC : xC G X "PlantServer$History" cX0_init 1 rm0_init := hC
  unfold w0_init at h
  refine xJ.loc (L' := [(0, .ref (ρ this))]) rfl ?_
  refine x_aload_n hC 0 rfl dX0_init_0 ?_
  refine x_oinit hC q33 q22 q23 (by decide) (by first | exact Nat.le_of_ble_eq_true rfl | (simp [rv_cat]; done) | (simp (decide := true) [rv_cat, cat_ref, cat_int]; done)) dX0_init_1 ?_
  refine x_aload_n hC 0 rfl dX0_init_4 ?_
  refine x_sipush (v := 512) hC dX0_init_5 (by decide) ?_
  obtain ⟨n1, hz1, h⟩ := h
  obtain ⟨z1, h⟩ := h
  refine x_newa (kd := 9) (N := 512) (by decide) hC n1 hz1 .int rfl (by decide) (by decide) q48 (by decide) (by decide) dX0_init_8 (fun ρ1 hρ1 => ?_)
  rw [← hρ1 this z1]
  refine xJ.nmH (fun σ1 e1 => ?_)
  have h := h σ1 e1
  have k1 : hK σ1 n1 = 9 := by rw [e1]; exact sN_c
  obtain ⟨k2, h⟩ := h
  refine x_putRF (m0 := n1) (n0 := this) hC (ci := 0) (T := TX0) (N := 4) (C := RX0) 0 k2 rfl rfl (by decide) rfl q34 rfl rfl hn (tyX0_ok 0 (by decide)) rfl rfl (by rw [k1]; decide) dX0_init_10 ?_
  refine xJ.nmH (fun σ2 e2 => ?_)
  have h := h σ2 e2
  have r1 : hR σ2 = hR σ2 ∧ hL σ2 = hL σ1 := by rw [e2]; exact ⟨rfl, rfl⟩
  refine x_aload_n hC 0 rfl dX0_init_13 ?_
  refine x_sipush (v := 512) hC dX0_init_14 (by decide) ?_
  obtain ⟨n2, hz2, h⟩ := h
  have k3 : hK σ2 this = 1 := by rw [e2]; exact k2
  refine x_newa (kd := 9) (N := 512) (by decide) hC n2 hz2 .int rfl (by decide) (by decide) q48 (by decide) (by decide) dX0_init_17 (fun ρ2 hρ2 => ?_)
  rw [← hρ2 this (by rw [k3]; decide)]
  refine xJ.nmH (fun σ3 e3 => ?_)
  have h := h σ3 e3
  have k4 : hK σ3 n2 = 9 := by rw [e3]; exact sN_c
  have k5 : hK σ3 this = 1 := by rw [e3]; exact sN_k hz2 k3 (by decide)
  refine x_putRF (m0 := n2) (n0 := this) hC (ci := 0) (T := TX0) (N := 4) (C := RX0) 1 k5 rfl rfl (by decide) rfl q35 rfl rfl hn (tyX0_ok 1 (by decide)) rfl rfl (by rw [k4]; decide) dX0_init_19 ?_
  refine xJ.nmH (fun σ4 e4 => ?_)
  have h := h σ4 e4
  have r2 : hR σ4 = hR σ4 ∧ hL σ4 = hL σ3 := by rw [e4]; exact ⟨rfl, rfl⟩
  refine x_aload_n hC 0 rfl dX0_init_22 ?_
  refine x_sipush (v := 512) hC dX0_init_23 (by decide) ?_
  obtain ⟨n3, hz3, h⟩ := h
  have k6 : hK σ4 this = 1 := by rw [e4]; exact k5
  refine x_newa (kd := 9) (N := 512) (by decide) hC n3 hz3 .int rfl (by decide) (by decide) q48 (by decide) (by decide) dX0_init_26 (fun ρ3 hρ3 => ?_)
  rw [← hρ3 this (by rw [k6]; decide)]
  refine xJ.nmH (fun σ5 e5 => ?_)
  have h := h σ5 e5
  have k7 : hK σ5 n3 = 9 := by rw [e5]; exact sN_c
  have k8 : hK σ5 this = 1 := by rw [e5]; exact sN_k hz3 k6 (by decide)
  refine x_putRF (m0 := n3) (n0 := this) hC (ci := 0) (T := TX0) (N := 4) (C := RX0) 2 k8 rfl rfl (by decide) rfl q36 rfl rfl hn (tyX0_ok 2 (by decide)) rfl rfl (by rw [k7]; decide) dX0_init_28 ?_
  refine xJ.nmH (fun σ6 e6 => ?_)
  have h := h σ6 e6
  have r3 : hR σ6 = hR σ6 ∧ hL σ6 = hL σ5 := by rw [e6]; exact ⟨rfl, rfl⟩
  refine x_aload_n hC 0 rfl dX0_init_31 ?_
  refine x_iconst (v := 0) hC dX0_init_32 (by decide) ?_
  have k9 : hK σ6 this = 1 := by rw [e6]; exact k8
  refine x_putI (n0 := this) hC (ci := 0) (T := TX0) (N := 4) (C := RX0) 3 k9 rfl rfl (by decide) rfl q37 rfl (tyX0_ok 3 (by decide)) dX0_init_33 ?_
  refine xJ.nmH (fun σ7 e7 => ?_)
  have h := h σ7 e7
  have r4 : hR σ7 = hR σ6 ∧ hL σ7 = hL σ5 := by rw [e7]; exact ⟨r3.1, r3.2⟩
  exact x_vret hC hr dX0_init_36 (by decide) (by decide) ⟨rfl, h⟩
/-! PlantServer.<init> -/
theorem dX6_init_0 : decode cX6_init 0 = .ok (.aload_n 0, 1) := by decide +kernel
theorem dX6_init_1 : decode cX6_init 1 = .ok (.invokespecial 1, 3) := by decide +kernel
theorem dX6_init_4 : decode cX6_init 4 = .ok (.aload_n 0, 1) := by decide +kernel
theorem dX6_init_5 : decode cX6_init 5 = .ok (.bipush 10, 2) := by decide +kernel
theorem dX6_init_7 : decode cX6_init 7 = .ok (.newarray .int, 2) := by decide +kernel
theorem dX6_init_9 : decode cX6_init 9 = .ok (.putfield 9, 3) := by decide +kernel
theorem dX6_init_12 : decode cX6_init 12 = .ok (.aload_n 0, 1) := by decide +kernel
theorem dX6_init_13 : decode cX6_init 13 = .ok (.iconst 4, 1) := by decide +kernel
theorem dX6_init_14 : decode cX6_init 14 = .ok (.anewarray 13, 3) := by decide +kernel
theorem dX6_init_17 : decode cX6_init 17 = .ok (.putfield 15, 3) := by decide +kernel
theorem dX6_init_20 : decode cX6_init 20 = .ok (.aload_n 0, 1) := by decide +kernel
theorem dX6_init_21 : decode cX6_init 21 = .ok (.iconst 4, 1) := by decide +kernel
theorem dX6_init_22 : decode cX6_init 22 = .ok (.anewarray 13, 3) := by decide +kernel
theorem dX6_init_25 : decode cX6_init 25 = .ok (.putfield 19, 3) := by decide +kernel
theorem dX6_init_28 : decode cX6_init 28 = .ok (.aload_n 0, 1) := by decide +kernel
theorem dX6_init_29 : decode cX6_init 29 = .ok (.bipush 16, 2) := by decide +kernel
theorem dX6_init_31 : decode cX6_init 31 = .ok (.anewarray 22, 3) := by decide +kernel
theorem dX6_init_34 : decode cX6_init 34 = .ok (.putfield 24, 3) := by decide +kernel
theorem dX6_init_37 : decode cX6_init 37 = .ok (.aload_n 0, 1) := by decide +kernel
theorem dX6_init_38 : decode cX6_init 38 = .ok (.new 28, 3) := by decide +kernel
theorem dX6_init_41 : decode cX6_init 41 = .ok (.dup, 1) := by decide +kernel
theorem dX6_init_42 : decode cX6_init 42 = .ok (.invokespecial 30, 3) := by decide +kernel
theorem dX6_init_45 : decode cX6_init 45 = .ok (.putfield 31, 3) := by decide +kernel
theorem dX6_init_48 : decode cX6_init 48 = .ok (.aload_n 0, 1) := by decide +kernel
theorem dX6_init_49 : decode cX6_init 49 = .ok (.iconst 0, 1) := by decide +kernel
theorem dX6_init_50 : decode cX6_init 50 = .ok (.putfield 35, 3) := by decide +kernel
theorem dX6_init_53 : decode cX6_init 53 = .ok (.aload_n 0, 1) := by decide +kernel
theorem dX6_init_54 : decode cX6_init 54 = .ok (.iconst 0, 1) := by decide +kernel
theorem dX6_init_55 : decode cX6_init 55 = .ok (.putfield 39, 3) := by decide +kernel
theorem dX6_init_58 : decode cX6_init 58 = .ok (.aload_n 0, 1) := by decide +kernel
theorem dX6_init_59 : decode cX6_init 59 = .ok (.iconst 0, 1) := by decide +kernel
theorem dX6_init_60 : decode cX6_init 60 = .ok (.putfield 42, 3) := by decide +kernel
theorem dX6_init_63 : decode cX6_init 63 = .ok (.aload_n 0, 1) := by decide +kernel
theorem dX6_init_64 : decode cX6_init 64 = .ok (.iconst 0, 1) := by decide +kernel
theorem dX6_init_65 : decode cX6_init 65 = .ok (.putfield 45, 3) := by decide +kernel
theorem dX6_init_68 : decode cX6_init 68 = .ok (.return_, 1) := by decide +kernel
abbrev rm6_init : Room := { frames := 2, cells := 8, slots := 1574, locals := 40 }
theorem hd6_init : yX6_init.cls ≠ "java/lang/invoke/MethodHandle" ∧ yX6_init.cls ≠ "java/lang/invoke/VarHandle" ∧ (parseMethodDescriptor yX6_init.desc).map (fun d => d.parameters.length) = some 0 := by decide +kernel
set_option maxHeartbeats 4000000 in
set_option maxRecDepth 20000 in
theorem m6_init (l : Launch) (hl : l.stackTraces = false) (G : xG) (ρ : Nm → Nat) (this : Nm) (σ : PH) (Q : PH → Prop) (h : w6_init this σ Q) : xMet l yX6_init (.code yX6_init cX6_init 1 none) rm6_init G ρ σ [.ref (ρ this)] (eVA Q) xNo := by
  refine xMet.of hl (by decide +kernel) (Nat.le_of_ble_eq_true rfl) (fun X hC hr hn htab h0 => ?_)
  have hC : xC G X "PlantServer" cX6_init 1 rm6_init := hC
  unfold w6_init at h
  refine xJ.loc (L' := [(0, .ref (ρ this))]) rfl ?_
  refine x_aload_n hC 0 rfl dX6_init_0 ?_
  refine x_oinit hC q21 q22 q23 (by decide) (by first | exact Nat.le_of_ble_eq_true rfl | (simp [rv_cat]; done) | (simp (decide := true) [rv_cat, cat_ref, cat_int]; done)) dX6_init_1 ?_
  refine x_aload_n hC 0 rfl dX6_init_4 ?_
  refine x_bipush (v := 10) hC dX6_init_5 (by decide) ?_
  obtain ⟨n1, hz1, h⟩ := h
  obtain ⟨z1, h⟩ := h
  refine x_newa (kd := 9) (N := 10) (by decide) hC n1 hz1 .int rfl (by decide) (by decide) q48 (by decide) (by decide) dX6_init_7 (fun ρ1 hρ1 => ?_)
  rw [← hρ1 this z1]
  refine xJ.nmH (fun σ1 e1 => ?_)
  have h := h σ1 e1
  have k1 : hK σ1 n1 = 9 := by rw [e1]; exact sN_c
  obtain ⟨k2, h⟩ := h
  refine x_putRF (m0 := n1) (n0 := this) hC (ci := 6) (T := TX6) (N := 9) (C := RX6) 0 k2 rfl rfl (by decide) rfl q49 rfl rfl hn (tyX6_ok 0 (by decide)) rfl rfl (by rw [k1]; decide) dX6_init_9 ?_
  refine xJ.nmH (fun σ2 e2 => ?_)
  have h := h σ2 e2
  have r1 : hR σ2 = hR σ2 ∧ hL σ2 = hL σ1 := by rw [e2]; exact ⟨rfl, rfl⟩
  refine x_aload_n hC 0 rfl dX6_init_12 ?_
  refine x_iconst (v := 4) hC dX6_init_13 (by decide) ?_
  obtain ⟨n2, hz2, h⟩ := h
  have k3 : hK σ2 this = 7 := by rw [e2]; exact k2
  refine x_newq (kd := 13) (N := 4) (by decide) hC n2 hz2 (by decide) (by decide) q24 (by decide) (by decide) dX6_init_14 (fun ρ2 hρ2 => ?_)
  rw [← hρ2 this (by rw [k3]; decide)]
  refine xJ.nmH (fun σ3 e3 => ?_)
  have h := h σ3 e3
  have k4 : hK σ3 n2 = 13 := by rw [e3]; exact sN_c
  have k5 : hK σ3 this = 7 := by rw [e3]; exact sN_k hz2 k3 (by decide)
  refine x_putRF (m0 := n2) (n0 := this) hC (ci := 6) (T := TX6) (N := 9) (C := RX6) 1 k5 rfl rfl (by decide) rfl q50 rfl rfl hn (tyX6_ok 1 (by decide)) rfl rfl (by rw [k4]; decide) dX6_init_17 ?_
  refine xJ.nmH (fun σ4 e4 => ?_)
  have h := h σ4 e4
  have r2 : hR σ4 = hR σ4 ∧ hL σ4 = hL σ3 := by rw [e4]; exact ⟨rfl, rfl⟩
  refine x_aload_n hC 0 rfl dX6_init_20 ?_
  refine x_iconst (v := 4) hC dX6_init_21 (by decide) ?_
  obtain ⟨n3, hz3, h⟩ := h
  have k6 : hK σ4 this = 7 := by rw [e4]; exact k5
  refine x_newq (kd := 13) (N := 4) (by decide) hC n3 hz3 (by decide) (by decide) q24 (by decide) (by decide) dX6_init_22 (fun ρ3 hρ3 => ?_)
  rw [← hρ3 this (by rw [k6]; decide)]
  refine xJ.nmH (fun σ5 e5 => ?_)
  have h := h σ5 e5
  have k7 : hK σ5 n3 = 13 := by rw [e5]; exact sN_c
  have k8 : hK σ5 this = 7 := by rw [e5]; exact sN_k hz3 k6 (by decide)
  refine x_putRF (m0 := n3) (n0 := this) hC (ci := 6) (T := TX6) (N := 9) (C := RX6) 2 k8 rfl rfl (by decide) rfl q51 rfl rfl hn (tyX6_ok 2 (by decide)) rfl rfl (by rw [k7]; decide) dX6_init_25 ?_
  refine xJ.nmH (fun σ6 e6 => ?_)
  have h := h σ6 e6
  have r3 : hR σ6 = hR σ6 ∧ hL σ6 = hL σ5 := by rw [e6]; exact ⟨rfl, rfl⟩
  refine x_aload_n hC 0 rfl dX6_init_28 ?_
  refine x_bipush (v := 16) hC dX6_init_29 (by decide) ?_
  obtain ⟨n4, hz4, h⟩ := h
  have k9 : hK σ6 this = 7 := by rw [e6]; exact k8
  refine x_newq (kd := 11) (N := 16) (by decide) hC n4 hz4 (by decide) (by decide) q26 (by decide) (by decide) dX6_init_31 (fun ρ4 hρ4 => ?_)
  rw [← hρ4 this (by rw [k9]; decide)]
  refine xJ.nmH (fun σ7 e7 => ?_)
  have h := h σ7 e7
  have k10 : hK σ7 n4 = 11 := by rw [e7]; exact sN_c
  have k11 : hK σ7 this = 7 := by rw [e7]; exact sN_k hz4 k9 (by decide)
  refine x_putRF (m0 := n4) (n0 := this) hC (ci := 6) (T := TX6) (N := 9) (C := RX6) 3 k11 rfl rfl (by decide) rfl q52 rfl rfl hn (tyX6_ok 3 (by decide)) rfl rfl (by rw [k10]; decide) dX6_init_34 ?_
  refine xJ.nmH (fun σ8 e8 => ?_)
  have h := h σ8 e8
  have r4 : hR σ8 = hR σ8 ∧ hL σ8 = hL σ7 := by rw [e8]; exact ⟨rfl, rfl⟩
  refine x_aload_n hC 0 rfl dX6_init_37 ?_
  obtain ⟨n5, hz5, h⟩ := h
  have k12 : hK σ8 this = 7 := by rw [e8]; exact k11
  refine x_new (ci := 0) (T := TX0) (N := 4) (C := RX0) hC n5 hz5 rfl xdf0 q28 q29 q2 (by decide) (by decide) dX6_init_38 (fun ρ5 hρ5 => ?_)
  rw [← hρ5 this (by rw [k12]; decide)]
  refine xJ.nmH (fun σ9 e9 => ?_)
  have h := h σ9 e9
  have k13 : hK σ9 n5 = 1 := by rw [e9]; exact sN_c
  refine x_dup hC (by first | rfl | exact rv_cat) dX6_init_41 ?_
  have k14 : hK σ9 this = 7 := by rw [e9]; exact sN_k hz5 k12 (by decide)
  refine x_callIN (as := []) (rest := [.ref (ρ5 n5), .ref (ρ5 this)]) hC (fun l hl => m0_init l hl G ρ5 n5 σ9 _ h) qn_0 q31 q2 q32 rfl hd0_init (by decide) ⟨(by decide), (by decide)⟩ (by first | exact Nat.le_of_ble_eq_true rfl | (simp [rv_cat]; done) | (simp (decide := true) [rv_cat, cat_ref, cat_int]; done)) rfl dX6_init_42 (fun E σ9 hx => False.elim hx) (fun v1 σ10 ρ6 hp1 hag1 => ?_)
  obtain ⟨e8, h⟩ := hp1
  rw [e8]
  rw [← (hag1 this (by rw [k14]; decide)).2, ← (hag1 n5 (by rw [k13]; decide)).2]
  refine xJ.nrm (k' := 8) (n' := 1574) (pc' := 45) (st' := [.ref (ρ6 n5), .ref (ρ6 this)]) rfl rfl rfl rfl ?_
  have k15 : hK σ10 this = 7 := (hag1 this (by rw [k14]; decide)).1.trans k14
  have k16 : hK σ10 n5 = 1 := (hag1 n5 (by rw [k13]; decide)).1.trans k13
  refine x_putRF (m0 := n5) (n0 := this) hC (ci := 6) (T := TX6) (N := 9) (C := RX6) 4 k15 rfl rfl (by decide) rfl q53 rfl rfl hn (tyX6_ok 4 (by decide)) rfl rfl (by rw [k16]; decide) dX6_init_45 ?_
  refine xJ.nmH (fun σ11 e10 => ?_)
  have h := h σ11 e10
  have r5 : hR σ11 = hR σ11 ∧ hL σ11 = hL σ10 := by rw [e10]; exact ⟨rfl, rfl⟩
  refine x_aload_n hC 0 rfl dX6_init_48 ?_
  refine x_iconst (v := 0) hC dX6_init_49 (by decide) ?_
  have k17 : hK σ11 this = 7 := by rw [e10]; exact k15
  refine x_putI (n0 := this) hC (ci := 6) (T := TX6) (N := 9) (C := RX6) 5 k17 rfl rfl (by decide) rfl q54 rfl (tyX6_ok 5 (by decide)) dX6_init_50 ?_
  refine xJ.nmH (fun σ12 e11 => ?_)
  have h := h σ12 e11
  have r6 : hR σ12 = hR σ11 ∧ hL σ12 = hL σ10 := by rw [e11]; exact ⟨r5.1, r5.2⟩
  refine x_aload_n hC 0 rfl dX6_init_53 ?_
  refine x_iconst (v := 0) hC dX6_init_54 (by decide) ?_
  have k18 : hK σ12 this = 7 := by rw [e11]; exact k17
  refine x_putI (n0 := this) hC (ci := 6) (T := TX6) (N := 9) (C := RX6) 6 k18 rfl rfl (by decide) rfl q55 rfl (tyX6_ok 6 (by decide)) dX6_init_55 ?_
  refine xJ.nmH (fun σ13 e12 => ?_)
  have h := h σ13 e12
  have r7 : hR σ13 = hR σ11 ∧ hL σ13 = hL σ10 := by rw [e12]; exact ⟨r6.1, r6.2⟩
  refine x_aload_n hC 0 rfl dX6_init_58 ?_
  refine x_iconst (v := 0) hC dX6_init_59 (by decide) ?_
  have k19 : hK σ13 this = 7 := by rw [e12]; exact k18
  refine x_putI (n0 := this) hC (ci := 6) (T := TX6) (N := 9) (C := RX6) 7 k19 rfl rfl (by decide) rfl q56 rfl (tyX6_ok 7 (by decide)) dX6_init_60 ?_
  refine xJ.nmH (fun σ14 e13 => ?_)
  have h := h σ14 e13
  have r8 : hR σ14 = hR σ11 ∧ hL σ14 = hL σ10 := by rw [e13]; exact ⟨r7.1, r7.2⟩
  refine x_aload_n hC 0 rfl dX6_init_63 ?_
  refine x_iconst (v := 0) hC dX6_init_64 (by decide) ?_
  have k20 : hK σ14 this = 7 := by rw [e13]; exact k19
  refine x_putI (n0 := this) hC (ci := 6) (T := TX6) (N := 9) (C := RX6) 8 k20 rfl rfl (by decide) rfl q57 rfl (tyX6_ok 8 (by decide)) dX6_init_65 ?_
  refine xJ.nmH (fun σ15 e14 => ?_)
  have h := h σ15 e14
  have r9 : hR σ15 = hR σ11 ∧ hL σ15 = hL σ10 := by rw [e14]; exact ⟨r8.1, r8.2⟩
  exact x_vret hC hr dX6_init_68 (by decide) (by decide) ⟨rfl, h⟩
/-! PlantServer.checkRange -/
theorem dX6_checkRange_0 : decode cX6_checkRange 0 = .ok (.iload_n 0, 1) := by decide +kernel
theorem dX6_checkRange_1 : decode cX6_checkRange 1 = .ok (.iload_n 1, 1) := by decide +kernel
theorem dX6_checkRange_2 : decode cX6_checkRange 2 = .ok (.if_icmp .lt 8, 3) := by decide +kernel
theorem dX6_checkRange_5 : decode cX6_checkRange 5 = .ok (.iload_n 0, 1) := by decide +kernel
theorem dX6_checkRange_6 : decode cX6_checkRange 6 = .ok (.iload_n 2, 1) := by decide +kernel
theorem dX6_checkRange_7 : decode cX6_checkRange 7 = .ok (.if_icmp .le 13, 3) := by decide +kernel
theorem dX6_checkRange_10 : decode cX6_checkRange 10 = .ok (.new 109, 3) := by decide +kernel
theorem dX6_checkRange_13 : decode cX6_checkRange 13 = .ok (.dup, 1) := by decide +kernel
theorem dX6_checkRange_14 : decode cX6_checkRange 14 = .ok (.ldc 183, 2) := by decide +kernel
theorem dX6_checkRange_16 : decode cX6_checkRange 16 = .ok (.invokespecial 113, 3) := by decide +kernel
theorem dX6_checkRange_19 : decode cX6_checkRange 19 = .ok (.athrow, 1) := by decide +kernel
theorem dX6_checkRange_20 : decode cX6_checkRange 20 = .ok (.return_, 1) := by decide +kernel
abbrev rm6_checkRange : Room := { frames := 6, cells := 1, slots := 6, locals := 90 }
theorem hd6_checkRange : yX6_checkRange.cls ≠ "java/lang/invoke/MethodHandle" ∧ yX6_checkRange.cls ≠ "java/lang/invoke/VarHandle" ∧ (parseMethodDescriptor yX6_checkRange.desc).map (fun d => d.parameters.length) = some 3 := by decide +kernel
set_option maxHeartbeats 4000000 in
set_option maxRecDepth 20000 in
theorem m6_checkRange (l : Launch) (hl : l.stackTraces = false) (G : xG) (ρ : Nm → Nat) (p1 : Int32) (p2 : Int32) (p3 : Int32) (σ : PH) (Q : PH → Prop) (Xp : String → PH → Prop) (h : w6_checkRange p1 p2 p3 σ Q Xp) : xMet l yX6_checkRange (.code yX6_checkRange cX6_checkRange 3 none) rm6_checkRange G ρ σ [.int p1, .int p2, .int p3] (eV ρ Q) Xp := by
  refine xMet.of hl (by decide +kernel) (Nat.le_of_ble_eq_true rfl) (fun X hC hr hn htab h0 => ?_)
  have hC : xC G X "PlantServer" cX6_checkRange 3 rm6_checkRange := hC
  unfold w6_checkRange at h
  refine xJ.loc (L' := [(0, .int p1), (1, .int p2), (2, .int p3)]) rfl ?_
  refine x_iload_n hC 0 rfl dX6_checkRange_0 ?_
  refine x_iload_n hC 1 rfl dX6_checkRange_1 ?_
  refine x_icmp_lt (tgt := 10) hC dX6_checkRange_2 (by decide) (fun c1 => ?_) (fun c1 => ?_)
  · have h := h.1 c1
    exact x_throw (E := xIA) (text := "an argument is out of its range") (is := 183) hC h0 htab (by decide +kernel) (by decide +kernel) q99 q6 xhat_xIA xgood_xIA dX6_checkRange_10 dX6_checkRange_13 dX6_checkRange_14 dX6_checkRange_16 dX6_checkRange_19 (by decide) (by first | exact Nat.le_of_ble_eq_true rfl | (simp [rv_cat]; done) | (simp (decide := true) [rv_cat, cat_ref, cat_int]; done)) (by decide) (by decide) h
  · have h := h.2 c1
    refine x_iload_n hC 0 rfl dX6_checkRange_5 ?_
    refine x_iload_n hC 2 rfl dX6_checkRange_6 ?_
    refine x_icmp_le (tgt := 20) hC dX6_checkRange_7 (by decide) (fun c2 => ?_) (fun c2 => ?_)
    · have h := h.1 c2
      exact x_vret hC hr dX6_checkRange_20 (by decide) (by decide) ⟨rfl, rfl, h⟩
    · have h := h.2 c2
      exact x_throw (E := xIA) (text := "an argument is out of its range") (is := 183) hC h0 htab (by decide +kernel) (by decide +kernel) q99 q6 xhat_xIA xgood_xIA dX6_checkRange_10 dX6_checkRange_13 dX6_checkRange_14 dX6_checkRange_16 dX6_checkRange_19 (by decide) (by first | exact Nat.le_of_ble_eq_true rfl | (simp [rv_cat]; done) | (simp (decide := true) [rv_cat, cat_ref, cat_int]; done)) (by decide) (by decide) h
/-! PlantServer.isOpen -/
theorem dX6_isOpen_0 : decode cX6_isOpen 0 = .ok (.iload_n 1, 1) := by decide +kernel
theorem dX6_isOpen_1 : decode cX6_isOpen 1 = .ok (.iconst 0, 1) := by decide +kernel
theorem dX6_isOpen_2 : decode cX6_isOpen 2 = .ok (.iconst 3, 1) := by decide +kernel
theorem dX6_isOpen_3 : decode cX6_isOpen 3 = .ok (.invokestatic 52, 3) := by decide +kernel
theorem dX6_isOpen_6 : decode cX6_isOpen 6 = .ok (.aload_n 0, 1) := by decide +kernel
theorem dX6_isOpen_7 : decode cX6_isOpen 7 = .ok (.getfield 15, 3) := by decide +kernel
theorem dX6_isOpen_10 : decode cX6_isOpen 10 = .ok (.iload_n 1, 1) := by decide +kernel
theorem dX6_isOpen_11 : decode cX6_isOpen 11 = .ok (.aaload, 1) := by decide +kernel
theorem dX6_isOpen_12 : decode cX6_isOpen 12 = .ok (.astore_n 2, 1) := by decide +kernel
theorem dX6_isOpen_13 : decode cX6_isOpen 13 = .ok (.aload_n 2, 1) := by decide +kernel
theorem dX6_isOpen_14 : decode cX6_isOpen 14 = .ok (.ifnull 14, 3) := by decide +kernel
theorem dX6_isOpen_17 : decode cX6_isOpen 17 = .ok (.aload_n 2, 1) := by decide +kernel
theorem dX6_isOpen_18 : decode cX6_isOpen 18 = .ok (.getfield 77, 3) := by decide +kernel
theorem dX6_isOpen_21 : decode cX6_isOpen 21 = .ok (.ifCond .eq 7, 3) := by decide +kernel
theorem dX6_isOpen_24 : decode cX6_isOpen 24 = .ok (.iconst 1, 1) := by decide +kernel
theorem dX6_isOpen_25 : decode cX6_isOpen 25 = .ok (.goto 4, 3) := by decide +kernel
theorem dX6_isOpen_28 : decode cX6_isOpen 28 = .ok (.iconst 0, 1) := by decide +kernel
theorem dX6_isOpen_29 : decode cX6_isOpen 29 = .ok (.ireturn, 1) := by decide +kernel
abbrev rm6_isOpen : Room := { frames := 7, cells := 1, slots := 6, locals := 112 }
theorem hd6_isOpen : yX6_isOpen.cls ≠ "java/lang/invoke/MethodHandle" ∧ yX6_isOpen.cls ≠ "java/lang/invoke/VarHandle" ∧ (parseMethodDescriptor yX6_isOpen.desc).map (fun d => d.parameters.length) = some 1 := by decide +kernel
set_option maxHeartbeats 4000000 in
set_option maxRecDepth 20000 in
theorem m6_isOpen (l : Launch) (hl : l.stackTraces = false) (G : xG) (ρ : Nm → Nat) (this : Nm) (p1 : Int32) (σ : PH) (Q : Int32 → PH → Prop) (Xp : String → PH → Prop) (h : w6_isOpen this p1 σ Q Xp) : xMet l yX6_isOpen (.code yX6_isOpen cX6_isOpen 3 (some .boolean)) rm6_isOpen G ρ σ [.ref (ρ this), .int p1] (eI ρ Q) Xp := by
  refine xMet.of hl (by decide +kernel) (Nat.le_of_ble_eq_true rfl) (fun X hC hr hn htab h0 => ?_)
  have hC : xC G X "PlantServer" cX6_isOpen 3 rm6_isOpen := hC
  unfold w6_isOpen at h
  refine xJ.loc (L' := [(0, .ref (ρ this)), (1, .int p1)]) rfl ?_
  refine x_iload_n hC 1 rfl dX6_isOpen_0 ?_
  refine x_iconst (v := 0) hC dX6_isOpen_1 (by decide) ?_
  refine x_iconst (v := 3) hC dX6_isOpen_2 (by decide) ?_
  refine x_callS (as := [.int p1, .int 0, .int 3]) (rest := []) hC (fun l hl => m6_checkRange l hl G ρ p1 0 3 σ _ Xp h) q96 q97 q1 q98 hd6_checkRange (by decide) ⟨(by decide), (by decide)⟩ (by first | exact Nat.le_of_ble_eq_true rfl | (simp [rv_cat]; done) | (simp (decide := true) [rv_cat, cat_ref, cat_int]; done)) rfl dX6_isOpen_3 (fun E σ9 hx => x_out hC h0 htab (by decide) (by decide) hx) (fun v1 σ1 ρ1 hp1 hag1 => ?_)
  obtain ⟨e9, e8, h⟩ := hp1
  rw [e8, e9]
  refine xJ.nrm (k' := 1) (n' := 6) (pc' := 6) (st' := []) rfl rfl rfl rfl ?_
  refine x_aload_n hC 0 rfl dX6_isOpen_6 ?_
  obtain ⟨k1, h⟩ := h
  refine x_getR (n0 := this) hC (ci := 6) (T := TX6) (N := 9) (C := RX6) 1 k1 rfl rfl (by decide) rfl q50 dX6_isOpen_7 ?_
  refine x_iload_n hC 1 rfl dX6_isOpen_10 ?_
  obtain ⟨m1, hm1, h⟩ := h
  rw [show rv ρ (hR σ1 this 1) = Value.ref (ρ m1) from by rw [hm1]; rfl]
  obtain ⟨k2, h⟩ := h
  obtain ⟨v2, h⟩ := h
  refine x_aald13 (a := m1) hC k2 v2 dX6_isOpen_11 ?_
  refine x_astore_nQ (o := hR σ1 m1 (Int32.toNatClampNeg p1)) (L' := [(2, rv ρ (hR σ1 m1 (Int32.toNatClampNeg p1))), (0, .ref (ρ this)), (1, .int p1)]) hC dX6_isOpen_12 (by decide) (by first | rfl | simp (decide := true) [rv_cat, cat_ref, cat_int]) ?_
  refine x_aload_nQ (o := hR σ1 m1 (Int32.toNatClampNeg p1)) hC 0 rfl dX6_isOpen_13 ?_
  refine x_ifnull (o := hR σ1 m1 (Int32.toNatClampNeg p1)) (tgt := 28) hC dX6_isOpen_14 (by decide) (fun c1 => ?_) (fun m2 c1 => ?_)
  · have h := h.1 c1
    rw [show rv ρ (hR σ1 m1 (Int32.toNatClampNeg p1)) = Value.null from by rw [c1]; rfl]
    refine x_iconst (v := 0) hC dX6_isOpen_28 (by decide) ?_
    exact x_zret hC hr zb0 dX6_isOpen_29 (by decide) (by decide) ⟨rfl, _, rfl, h⟩
  · have h := h.2 m2 c1
    rw [show rv ρ (hR σ1 m1 (Int32.toNatClampNeg p1)) = Value.ref (ρ m2) from by rw [c1]; rfl]
    refine x_aload_n hC 0 rfl dX6_isOpen_17 ?_
    obtain ⟨k3, h⟩ := h
    refine x_getI (n0 := m2) hC (ci := 4) (T := TX4) (N := 14) (C := RX4) 7 k3 rfl rfl (by decide) rfl q216 dX6_isOpen_18 ?_
    refine x_if_eq (tgt := 28) hC dX6_isOpen_21 (by decide) (fun c2 => ?_) (fun c2 => ?_)
    · have h := h.1 c2
      refine x_iconst (v := 0) hC dX6_isOpen_28 (by decide) ?_
      exact x_zret hC hr zb0 dX6_isOpen_29 (by decide) (by decide) ⟨rfl, _, rfl, h⟩
    · have h := h.2 c2
      refine x_iconst (v := 1) hC dX6_isOpen_24 (by decide) ?_
      refine x_goto (tgt := 29) hC dX6_isOpen_25 (by decide) ?_
      exact x_zret hC hr zb1 dX6_isOpen_29 (by decide) (by decide) ⟨rfl, _, rfl, h⟩
/-! PlantServerLaw.isOpen -/
theorem dL_isOpen_0 : decode cL_isOpen 0 = .ok (.aload_n 0, 1) := by decide +kernel
theorem dL_isOpen_1 : decode cL_isOpen 1 = .ok (.iload_n 1, 1) := by decide +kernel
theorem dL_isOpen_2 : decode cL_isOpen 2 = .ok (.invokevirtual 79, 3) := by decide +kernel
theorem dL_isOpen_5 : decode cL_isOpen 5 = .ok (.istore_n 2, 1) := by decide +kernel
theorem dL_isOpen_6 : decode cL_isOpen 6 = .ok (.goto 8, 3) := by decide +kernel
theorem dL_isOpen_9 : decode cL_isOpen 9 = .ok (.astore_n 3, 1) := by decide +kernel
theorem dL_isOpen_10 : decode cL_isOpen 10 = .ok (.sipush (-7200), 3) := by decide +kernel
theorem dL_isOpen_13 : decode cL_isOpen 13 = .ok (.ireturn, 1) := by decide +kernel
theorem dL_isOpen_14 : decode cL_isOpen 14 = .ok (.iload_n 2, 1) := by decide +kernel
theorem dL_isOpen_15 : decode cL_isOpen 15 = .ok (.ifCond .eq 7, 3) := by decide +kernel
theorem dL_isOpen_18 : decode cL_isOpen 18 = .ok (.iconst 1, 1) := by decide +kernel
theorem dL_isOpen_19 : decode cL_isOpen 19 = .ok (.goto 4, 3) := by decide +kernel
theorem dL_isOpen_22 : decode cL_isOpen 22 = .ok (.iconst 0, 1) := by decide +kernel
theorem dL_isOpen_23 : decode cL_isOpen 23 = .ok (.ireturn, 1) := by decide +kernel
abbrev rmL_isOpen : Room := { frames := 8, cells := 1, slots := 6, locals := 134 }
theorem hdL_isOpen : yL_isOpen.cls ≠ "java/lang/invoke/MethodHandle" ∧ yL_isOpen.cls ≠ "java/lang/invoke/VarHandle" ∧ (parseMethodDescriptor yL_isOpen.desc).map (fun d => d.parameters.length) = some 2 := by decide +kernel
set_option maxHeartbeats 4000000 in
set_option maxRecDepth 20000 in
theorem mL_isOpen (l : Launch) (hl : l.stackTraces = false) (G : xG) (ρ : Nm → Nat) (a1 : Nm) (p2 : Int32) (σ : PH) (Q : Int32 → PH → Prop) (h : wL_isOpen a1 p2 σ Q) : xMet l yL_isOpen (.codeWith yL_isOpen cL_isOpen 4 (some .int) [(0, 6, 9, 16)]) rmL_isOpen G ρ σ [.ref (ρ a1), .int p2] (eI ρ Q) xNo := by
  refine xMet.ofW hl (by decide +kernel) (Nat.le_of_ble_eq_true rfl) (fun X hC hr hn htab h0 => ?_)
  have hC : xC G X "PlantServerLaw" cL_isOpen 4 rmL_isOpen := hC
  unfold wL_isOpen at h
  refine xJ.loc (L' := [(0, .ref (ρ a1)), (1, .int p2)]) rfl ?_
  refine x_aload_n hC 0 rfl dL_isOpen_0 ?_
  refine x_iload_n hC 1 rfl dL_isOpen_1 ?_
  obtain ⟨k1, h⟩ := h
  refine x_callV (n0 := a1) (as := [.int p2]) (rest := []) hC (ci := 6) (r := (RX6, TX6, 9)) k1 rfl (fun l hl => m6_isOpen l hl G ρ a1 p2 σ _ _ h) q262 q263 q264 q1 q265 ⟨rfl, hd6_isOpen⟩ (by decide) ⟨(by decide), (by decide)⟩ (by first | exact Nat.le_of_ble_eq_true rfl | (simp [rv_cat]; done) | (simp (decide := true) [rv_cat, cat_ref, cat_int]; done)) rfl dL_isOpen_2 (fun E σ2 hx => ?_) (fun v1 σ1 ρ1 hp1 hag1 => ?_)
  · have hE9 := hx.2
    have he := hE9
    have h := hx.1 he
    subst he
    refine x_catch hC [] [] (0, 6, 9, 16) htab (by intro z hz; simp at hz) (by decide) (by decide) q90 xcast_xIA (fun qx1 => ?_)
    refine xJ.nrm (k' := 1) (n' := 6) (pc' := 9) (st' := [.ref qx1]) rfl rfl rfl rfl ?_
    refine x_astore_n (L' := [(3, .ref qx1), (0, .ref (ρ a1)), (1, .int p2)]) hC dL_isOpen_9 (by decide) (by first | rfl | simp (decide := true) [rv_cat, cat_ref, cat_int]) ?_
    refine x_sipush (v := (-7200)) hC dL_isOpen_10 (by decide) ?_
    exact x_iret hC hr dL_isOpen_13 (by decide) (by decide) ⟨rfl, _, rfl, h⟩
  · obtain ⟨e9, r1, e8, h⟩ := hp1
    rw [e8, e9]
    refine xJ.nrm (k' := 1) (n' := 6) (pc' := 5) (st' := [.int r1]) rfl rfl rfl rfl ?_
    refine x_istore_n (L' := [(2, .int r1), (0, .ref (ρ a1)), (1, .int p2)]) hC dL_isOpen_5 (by decide) (by first | rfl | simp (decide := true) [rv_cat, cat_ref, cat_int]) ?_
    refine x_goto (tgt := 14) hC dL_isOpen_6 (by decide) ?_
    refine x_iload_n hC 0 rfl dL_isOpen_14 ?_
    refine x_if_eq (tgt := 22) hC dL_isOpen_15 (by decide) (fun c1 => ?_) (fun c1 => ?_)
    · have h := h.1 c1
      refine x_iconst (v := 0) hC dL_isOpen_22 (by decide) ?_
      exact x_iret hC hr dL_isOpen_23 (by decide) (by decide) ⟨rfl, _, rfl, h⟩
    · have h := h.2 c1
      refine x_iconst (v := 1) hC dL_isOpen_18 (by decide) ?_
      refine x_goto (tgt := 23) hC dL_isOpen_19 (by decide) ?_
      exact x_iret hC hr dL_isOpen_23 (by decide) (by decide) ⟨rfl, _, rfl, h⟩
/-! PlantServer.openSubscription -/
theorem dX6_openSubscription_0 : decode cX6_openSubscription 0 = .ok (.iload_n 1, 1) := by decide +kernel
theorem dX6_openSubscription_1 : decode cX6_openSubscription 1 = .ok (.ifCond .lt 8, 3) := by decide +kernel
theorem dX6_openSubscription_4 : decode cX6_openSubscription 4 = .ok (.iload_n 1, 1) := by decide +kernel
theorem dX6_openSubscription_5 : decode cX6_openSubscription 5 = .ok (.iconst 4, 1) := by decide +kernel
theorem dX6_openSubscription_6 : decode cX6_openSubscription 6 = .ok (.if_icmp .lt 13, 3) := by decide +kernel
theorem dX6_openSubscription_9 : decode cX6_openSubscription 9 = .ok (.new 185, 3) := by decide +kernel
theorem dX6_openSubscription_12 : decode cX6_openSubscription 12 = .ok (.dup, 1) := by decide +kernel
theorem dX6_openSubscription_13 : decode cX6_openSubscription 13 = .ok (.ldc 190, 2) := by decide +kernel
theorem dX6_openSubscription_15 : decode cX6_openSubscription 15 = .ok (.invokespecial 189, 3) := by decide +kernel
theorem dX6_openSubscription_18 : decode cX6_openSubscription 18 = .ok (.athrow, 1) := by decide +kernel
theorem dX6_openSubscription_19 : decode cX6_openSubscription 19 = .ok (.aload_n 0, 1) := by decide +kernel
theorem dX6_openSubscription_20 : decode cX6_openSubscription 20 = .ok (.getfield 15, 3) := by decide +kernel
theorem dX6_openSubscription_23 : decode cX6_openSubscription 23 = .ok (.iload_n 1, 1) := by decide +kernel
theorem dX6_openSubscription_24 : decode cX6_openSubscription 24 = .ok (.aaload, 1) := by decide +kernel
theorem dX6_openSubscription_25 : decode cX6_openSubscription 25 = .ok (.astore_n 2, 1) := by decide +kernel
theorem dX6_openSubscription_26 : decode cX6_openSubscription 26 = .ok (.aload_n 2, 1) := by decide +kernel
theorem dX6_openSubscription_27 : decode cX6_openSubscription 27 = .ok (.ifnull 10, 3) := by decide +kernel
theorem dX6_openSubscription_30 : decode cX6_openSubscription 30 = .ok (.aload_n 2, 1) := by decide +kernel
theorem dX6_openSubscription_31 : decode cX6_openSubscription 31 = .ok (.getfield 77, 3) := by decide +kernel
theorem dX6_openSubscription_34 : decode cX6_openSubscription 34 = .ok (.ifCond .ne 13, 3) := by decide +kernel
theorem dX6_openSubscription_37 : decode cX6_openSubscription 37 = .ok (.new 185, 3) := by decide +kernel
theorem dX6_openSubscription_40 : decode cX6_openSubscription 40 = .ok (.dup, 1) := by decide +kernel
theorem dX6_openSubscription_41 : decode cX6_openSubscription 41 = .ok (.ldc 192, 2) := by decide +kernel
theorem dX6_openSubscription_43 : decode cX6_openSubscription 43 = .ok (.invokespecial 189, 3) := by decide +kernel
theorem dX6_openSubscription_46 : decode cX6_openSubscription 46 = .ok (.athrow, 1) := by decide +kernel
theorem dX6_openSubscription_47 : decode cX6_openSubscription 47 = .ok (.aload_n 2, 1) := by decide +kernel
theorem dX6_openSubscription_48 : decode cX6_openSubscription 48 = .ok (.areturn, 1) := by decide +kernel
abbrev rm6_openSubscription : Room := { frames := 6, cells := 1, slots := 6, locals := 90 }
theorem hd6_openSubscription : yX6_openSubscription.cls ≠ "java/lang/invoke/MethodHandle" ∧ yX6_openSubscription.cls ≠ "java/lang/invoke/VarHandle" ∧ (parseMethodDescriptor yX6_openSubscription.desc).map (fun d => d.parameters.length) = some 1 := by decide +kernel
set_option maxHeartbeats 4000000 in
set_option maxRecDepth 20000 in
theorem m6_openSubscription (l : Launch) (hl : l.stackTraces = false) (G : xG) (ρ : Nm → Nat) (this : Nm) (p1 : Int32) (σ : PH) (Q : Option Nm → PH → Prop) (Xp : String → PH → Prop) (h : w6_openSubscription this p1 σ Q Xp) : xMet l yX6_openSubscription (.code yX6_openSubscription cX6_openSubscription 3 (some (.object "PlantServer$Subscription"))) rm6_openSubscription G ρ σ [.ref (ρ this), .int p1] (eR ρ Q) Xp := by
  refine xMet.of hl (by decide +kernel) (Nat.le_of_ble_eq_true rfl) (fun X hC hr hn htab h0 => ?_)
  have hC : xC G X "PlantServer" cX6_openSubscription 3 rm6_openSubscription := hC
  unfold w6_openSubscription at h
  refine xJ.loc (L' := [(0, .ref (ρ this)), (1, .int p1)]) rfl ?_
  refine x_iload_n hC 1 rfl dX6_openSubscription_0 ?_
  refine x_if_lt (tgt := 9) hC dX6_openSubscription_1 (by decide) (fun c1 => ?_) (fun c1 => ?_)
  · have h := h.1 c1
    exact x_throw (E := xIO) (text := "there is no such subscription") (is := 190) hC h0 htab (by decide +kernel) (by decide +kernel) q278 q7 xhat_xIO xgood_xIO dX6_openSubscription_9 dX6_openSubscription_12 dX6_openSubscription_13 dX6_openSubscription_15 dX6_openSubscription_18 (by decide) (by first | exact Nat.le_of_ble_eq_true rfl | (simp [rv_cat]; done) | (simp (decide := true) [rv_cat, cat_ref, cat_int]; done)) (by decide) (by decide) h
  · have h := h.2 c1
    refine x_iload_n hC 1 rfl dX6_openSubscription_4 ?_
    refine x_iconst (v := 4) hC dX6_openSubscription_5 (by decide) ?_
    refine x_icmp_lt (tgt := 19) hC dX6_openSubscription_6 (by decide) (fun c2 => ?_) (fun c2 => ?_)
    · have h := h.1 c2
      refine x_aload_n hC 0 rfl dX6_openSubscription_19 ?_
      obtain ⟨k1, h⟩ := h
      refine x_getR (n0 := this) hC (ci := 6) (T := TX6) (N := 9) (C := RX6) 1 k1 rfl rfl (by decide) rfl q50 dX6_openSubscription_20 ?_
      refine x_iload_n hC 1 rfl dX6_openSubscription_23 ?_
      obtain ⟨m1, hm1, h⟩ := h
      rw [show rv ρ (hR σ this 1) = Value.ref (ρ m1) from by rw [hm1]; rfl]
      obtain ⟨k2, h⟩ := h
      obtain ⟨v1, h⟩ := h
      refine x_aald13 (a := m1) hC k2 v1 dX6_openSubscription_24 ?_
      refine x_astore_nQ (o := hR σ m1 (Int32.toNatClampNeg p1)) (L' := [(2, rv ρ (hR σ m1 (Int32.toNatClampNeg p1))), (0, .ref (ρ this)), (1, .int p1)]) hC dX6_openSubscription_25 (by decide) (by first | rfl | simp (decide := true) [rv_cat, cat_ref, cat_int]) ?_
      refine x_aload_nQ (o := hR σ m1 (Int32.toNatClampNeg p1)) hC 0 rfl dX6_openSubscription_26 ?_
      refine x_ifnull (o := hR σ m1 (Int32.toNatClampNeg p1)) (tgt := 37) hC dX6_openSubscription_27 (by decide) (fun c3 => ?_) (fun m2 c3 => ?_)
      · have h := h.1 c3
        rw [show rv ρ (hR σ m1 (Int32.toNatClampNeg p1)) = Value.null from by rw [c3]; rfl]
        exact x_throw (E := xIO) (text := "the subscription is not open") (is := 192) hC h0 htab (by decide +kernel) (by decide +kernel) q278 q7 xhat_xIO xgood_xIO dX6_openSubscription_37 dX6_openSubscription_40 dX6_openSubscription_41 dX6_openSubscription_43 dX6_openSubscription_46 (by decide) (by first | exact Nat.le_of_ble_eq_true rfl | (simp [rv_cat]; done) | (simp (decide := true) [rv_cat, cat_ref, cat_int]; done)) (by decide) (by decide) h
      · have h := h.2 m2 c3
        rw [show rv ρ (hR σ m1 (Int32.toNatClampNeg p1)) = Value.ref (ρ m2) from by rw [c3]; rfl]
        refine x_aload_n hC 0 rfl dX6_openSubscription_30 ?_
        obtain ⟨k3, h⟩ := h
        refine x_getI (n0 := m2) hC (ci := 4) (T := TX4) (N := 14) (C := RX4) 7 k3 rfl rfl (by decide) rfl q216 dX6_openSubscription_31 ?_
        refine x_if_ne (tgt := 47) hC dX6_openSubscription_34 (by decide) (fun c4 => ?_) (fun c4 => ?_)
        · have h := h.1 c4
          refine x_aload_n hC 0 rfl dX6_openSubscription_47 ?_
          refine xJ.stk (st' := [rv ρ (some m2)]) rfl ?_
          exact x_aret (o := some m2) hC hr dX6_openSubscription_48 (by decide) (by decide) ⟨rfl, _, rfl, h⟩
        · have h := h.2 c4
          exact x_throw (E := xIO) (text := "the subscription is not open") (is := 192) hC h0 htab (by decide +kernel) (by decide +kernel) q278 q7 xhat_xIO xgood_xIO dX6_openSubscription_37 dX6_openSubscription_40 dX6_openSubscription_41 dX6_openSubscription_43 dX6_openSubscription_46 (by decide) (by first | exact Nat.le_of_ble_eq_true rfl | (simp [rv_cat]; done) | (simp (decide := true) [rv_cat, cat_ref, cat_int]; done)) (by decide) (by decide) h
    · have h := h.2 c2
      exact x_throw (E := xIO) (text := "there is no such subscription") (is := 190) hC h0 htab (by decide +kernel) (by decide +kernel) q278 q7 xhat_xIO xgood_xIO dX6_openSubscription_9 dX6_openSubscription_12 dX6_openSubscription_13 dX6_openSubscription_15 dX6_openSubscription_18 (by decide) (by first | exact Nat.le_of_ble_eq_true rfl | (simp [rv_cat]; done) | (simp (decide := true) [rv_cat, cat_ref, cat_int]; done)) (by decide) (by decide) h
/-! PlantServer.latest -/
theorem dX6_latest_0 : decode cX6_latest 0 = .ok (.aload_n 0, 1) := by decide +kernel
theorem dX6_latest_1 : decode cX6_latest 1 = .ok (.iload_n 1, 1) := by decide +kernel
theorem dX6_latest_2 : decode cX6_latest 2 = .ok (.invokevirtual 73, 3) := by decide +kernel
theorem dX6_latest_5 : decode cX6_latest 5 = .ok (.getfield 165, 3) := by decide +kernel
theorem dX6_latest_8 : decode cX6_latest 8 = .ok (.ireturn, 1) := by decide +kernel
abbrev rm6_latest : Room := { frames := 7, cells := 1, slots := 6, locals := 112 }
theorem hd6_latest : yX6_latest.cls ≠ "java/lang/invoke/MethodHandle" ∧ yX6_latest.cls ≠ "java/lang/invoke/VarHandle" ∧ (parseMethodDescriptor yX6_latest.desc).map (fun d => d.parameters.length) = some 1 := by decide +kernel
set_option maxHeartbeats 4000000 in
set_option maxRecDepth 20000 in
theorem m6_latest (l : Launch) (hl : l.stackTraces = false) (G : xG) (ρ : Nm → Nat) (this : Nm) (p1 : Int32) (σ : PH) (Q : Int32 → PH → Prop) (Xp : String → PH → Prop) (h : w6_latest this p1 σ Q Xp) : xMet l yX6_latest (.code yX6_latest cX6_latest 2 (some .int)) rm6_latest G ρ σ [.ref (ρ this), .int p1] (eI ρ Q) Xp := by
  refine xMet.of hl (by decide +kernel) (Nat.le_of_ble_eq_true rfl) (fun X hC hr hn htab h0 => ?_)
  have hC : xC G X "PlantServer" cX6_latest 2 rm6_latest := hC
  unfold w6_latest at h
  refine xJ.loc (L' := [(0, .ref (ρ this)), (1, .int p1)]) rfl ?_
  refine x_aload_n hC 0 rfl dX6_latest_0 ?_
  refine x_iload_n hC 1 rfl dX6_latest_1 ?_
  obtain ⟨k1, h⟩ := h
  refine x_callV (n0 := this) (as := [.int p1]) (rest := []) hC (ci := 6) (r := (RX6, TX6, 9)) k1 rfl (fun l hl => m6_openSubscription l hl G ρ this p1 σ _ Xp h) q274 q276 s2 q1 q277 ⟨rfl, hd6_openSubscription⟩ (by decide) ⟨(by decide), (by decide)⟩ (by first | exact Nat.le_of_ble_eq_true rfl | (simp [rv_cat]; done) | (simp (decide := true) [rv_cat, cat_ref, cat_int]; done)) rfl dX6_latest_2 (fun E σ9 hx => x_out hC h0 htab (by decide) (by decide) hx) (fun v1 σ1 ρ1 hp1 hag1 => ?_)
  obtain ⟨e9, r1, e8, h⟩ := hp1
  rw [e8, e9]
  refine xJ.nrm (k' := 1) (n' := 6) (pc' := 5) (st' := [rv ρ r1]) rfl rfl rfl rfl ?_
  obtain ⟨m1, hm1, h⟩ := h
  rw [show rv ρ r1 = Value.ref (ρ m1) from by rw [hm1]; rfl]
  obtain ⟨k2, h⟩ := h
  refine x_getI (n0 := m1) hC (ci := 4) (T := TX4) (N := 14) (C := RX4) 10 k2 rfl rfl (by decide) rfl q221 dX6_latest_5 ?_
  exact x_iret hC hr dX6_latest_8 (by decide) (by decide) ⟨rfl, _, rfl, h⟩
/-! PlantServerLaw.latest -/
theorem dL_latest_0 : decode cL_latest 0 = .ok (.aload_n 0, 1) := by decide +kernel
theorem dL_latest_1 : decode cL_latest 1 = .ok (.iload_n 1, 1) := by decide +kernel
theorem dL_latest_2 : decode cL_latest 2 = .ok (.invokevirtual 67, 3) := by decide +kernel
theorem dL_latest_5 : decode cL_latest 5 = .ok (.istore_n 2, 1) := by decide +kernel
theorem dL_latest_6 : decode cL_latest 6 = .ok (.goto 8, 3) := by decide +kernel
theorem dL_latest_9 : decode cL_latest 9 = .ok (.astore_n 3, 1) := by decide +kernel
theorem dL_latest_10 : decode cL_latest 10 = .ok (.sipush (-7100), 3) := by decide +kernel
theorem dL_latest_13 : decode cL_latest 13 = .ok (.ireturn, 1) := by decide +kernel
theorem dL_latest_14 : decode cL_latest 14 = .ok (.iload_n 2, 1) := by decide +kernel
theorem dL_latest_15 : decode cL_latest 15 = .ok (.ireturn, 1) := by decide +kernel
abbrev rmL_latest : Room := { frames := 8, cells := 1, slots := 6, locals := 133 }
theorem hdL_latest : yL_latest.cls ≠ "java/lang/invoke/MethodHandle" ∧ yL_latest.cls ≠ "java/lang/invoke/VarHandle" ∧ (parseMethodDescriptor yL_latest.desc).map (fun d => d.parameters.length) = some 2 := by decide +kernel
set_option maxHeartbeats 4000000 in
set_option maxRecDepth 20000 in
theorem mL_latest (l : Launch) (hl : l.stackTraces = false) (G : xG) (ρ : Nm → Nat) (a1 : Nm) (p2 : Int32) (σ : PH) (Q : Int32 → PH → Prop) (h : wL_latest a1 p2 σ Q) : xMet l yL_latest (.codeWith yL_latest cL_latest 4 (some .int) [(0, 6, 9, 14)]) rmL_latest G ρ σ [.ref (ρ a1), .int p2] (eI ρ Q) xNo := by
  refine xMet.ofW hl (by decide +kernel) (Nat.le_of_ble_eq_true rfl) (fun X hC hr hn htab h0 => ?_)
  have hC : xC G X "PlantServerLaw" cL_latest 4 rmL_latest := hC
  unfold wL_latest at h
  refine xJ.loc (L' := [(0, .ref (ρ a1)), (1, .int p2)]) rfl ?_
  refine x_aload_n hC 0 rfl dL_latest_0 ?_
  refine x_iload_n hC 1 rfl dL_latest_1 ?_
  obtain ⟨k1, h⟩ := h
  refine x_callV (n0 := a1) (as := [.int p2]) (rest := []) hC (ci := 6) (r := (RX6, TX6, 9)) k1 rfl (fun l hl => m6_latest l hl G ρ a1 p2 σ _ _ h) q614 q615 q616 q1 q617 ⟨rfl, hd6_latest⟩ (by decide) ⟨(by decide), (by decide)⟩ (by first | exact Nat.le_of_ble_eq_true rfl | (simp [rv_cat]; done) | (simp (decide := true) [rv_cat, cat_ref, cat_int]; done)) rfl dL_latest_2 (fun E σ2 hx => ?_) (fun v1 σ1 ρ1 hp1 hag1 => ?_)
  · have hE9 := hx.2
    have he := hE9
    have h := hx.1 he
    subst he
    refine x_catch hC [] [] (0, 6, 9, 14) htab (by intro z hz; simp at hz) (by decide) (by decide) q269 xcast_xIO (fun qx1 => ?_)
    refine xJ.nrm (k' := 1) (n' := 6) (pc' := 9) (st' := [.ref qx1]) rfl rfl rfl rfl ?_
    refine x_astore_n (L' := [(3, .ref qx1), (0, .ref (ρ a1)), (1, .int p2)]) hC dL_latest_9 (by decide) (by first | rfl | simp (decide := true) [rv_cat, cat_ref, cat_int]) ?_
    refine x_sipush (v := (-7100)) hC dL_latest_10 (by decide) ?_
    exact x_iret hC hr dL_latest_13 (by decide) (by decide) ⟨rfl, _, rfl, h⟩
  · obtain ⟨e9, r1, e8, h⟩ := hp1
    rw [e8, e9]
    refine xJ.nrm (k' := 1) (n' := 6) (pc' := 5) (st' := [.int r1]) rfl rfl rfl rfl ?_
    refine x_istore_n (L' := [(2, .int r1), (0, .ref (ρ a1)), (1, .int p2)]) hC dL_latest_5 (by decide) (by first | rfl | simp (decide := true) [rv_cat, cat_ref, cat_int]) ?_
    refine x_goto (tgt := 14) hC dL_latest_6 (by decide) ?_
    refine x_iload_n hC 0 rfl dL_latest_14 ?_
    exact x_iret hC hr dL_latest_15 (by decide) (by decide) ⟨rfl, _, rfl, h⟩
/-! PlantServer.keepAlives -/
theorem dX6_keepAlives_0 : decode cX6_keepAlives 0 = .ok (.aload_n 0, 1) := by decide +kernel
theorem dX6_keepAlives_1 : decode cX6_keepAlives 1 = .ok (.iload_n 1, 1) := by decide +kernel
theorem dX6_keepAlives_2 : decode cX6_keepAlives 2 = .ok (.invokevirtual 73, 3) := by decide +kernel
theorem dX6_keepAlives_5 : decode cX6_keepAlives 5 = .ok (.getfield 168, 3) := by decide +kernel
theorem dX6_keepAlives_8 : decode cX6_keepAlives 8 = .ok (.ireturn, 1) := by decide +kernel
abbrev rm6_keepAlives : Room := { frames := 7, cells := 1, slots := 6, locals := 112 }
theorem hd6_keepAlives : yX6_keepAlives.cls ≠ "java/lang/invoke/MethodHandle" ∧ yX6_keepAlives.cls ≠ "java/lang/invoke/VarHandle" ∧ (parseMethodDescriptor yX6_keepAlives.desc).map (fun d => d.parameters.length) = some 1 := by decide +kernel
set_option maxHeartbeats 4000000 in
set_option maxRecDepth 20000 in
theorem m6_keepAlives (l : Launch) (hl : l.stackTraces = false) (G : xG) (ρ : Nm → Nat) (this : Nm) (p1 : Int32) (σ : PH) (Q : Int32 → PH → Prop) (Xp : String → PH → Prop) (h : w6_keepAlives this p1 σ Q Xp) : xMet l yX6_keepAlives (.code yX6_keepAlives cX6_keepAlives 2 (some .int)) rm6_keepAlives G ρ σ [.ref (ρ this), .int p1] (eI ρ Q) Xp := by
  refine xMet.of hl (by decide +kernel) (Nat.le_of_ble_eq_true rfl) (fun X hC hr hn htab h0 => ?_)
  have hC : xC G X "PlantServer" cX6_keepAlives 2 rm6_keepAlives := hC
  unfold w6_keepAlives at h
  refine xJ.loc (L' := [(0, .ref (ρ this)), (1, .int p1)]) rfl ?_
  refine x_aload_n hC 0 rfl dX6_keepAlives_0 ?_
  refine x_iload_n hC 1 rfl dX6_keepAlives_1 ?_
  obtain ⟨k1, h⟩ := h
  refine x_callV (n0 := this) (as := [.int p1]) (rest := []) hC (ci := 6) (r := (RX6, TX6, 9)) k1 rfl (fun l hl => m6_openSubscription l hl G ρ this p1 σ _ Xp h) q274 q276 s2 q1 q277 ⟨rfl, hd6_openSubscription⟩ (by decide) ⟨(by decide), (by decide)⟩ (by first | exact Nat.le_of_ble_eq_true rfl | (simp [rv_cat]; done) | (simp (decide := true) [rv_cat, cat_ref, cat_int]; done)) rfl dX6_keepAlives_2 (fun E σ9 hx => x_out hC h0 htab (by decide) (by decide) hx) (fun v1 σ1 ρ1 hp1 hag1 => ?_)
  obtain ⟨e9, r1, e8, h⟩ := hp1
  rw [e8, e9]
  refine xJ.nrm (k' := 1) (n' := 6) (pc' := 5) (st' := [rv ρ r1]) rfl rfl rfl rfl ?_
  obtain ⟨m1, hm1, h⟩ := h
  rw [show rv ρ r1 = Value.ref (ρ m1) from by rw [hm1]; rfl]
  obtain ⟨k2, h⟩ := h
  refine x_getI (n0 := m1) hC (ci := 4) (T := TX4) (N := 14) (C := RX4) 11 k2 rfl rfl (by decide) rfl q223 dX6_keepAlives_5 ?_
  exact x_iret hC hr dX6_keepAlives_8 (by decide) (by decide) ⟨rfl, _, rfl, h⟩
/-! PlantServerLaw.keepAlives -/
theorem dL_keepAlives_0 : decode cL_keepAlives 0 = .ok (.aload_n 0, 1) := by decide +kernel
theorem dL_keepAlives_1 : decode cL_keepAlives 1 = .ok (.iload_n 1, 1) := by decide +kernel
theorem dL_keepAlives_2 : decode cL_keepAlives 2 = .ok (.invokevirtual 70, 3) := by decide +kernel
theorem dL_keepAlives_5 : decode cL_keepAlives 5 = .ok (.istore_n 2, 1) := by decide +kernel
theorem dL_keepAlives_6 : decode cL_keepAlives 6 = .ok (.goto 8, 3) := by decide +kernel
theorem dL_keepAlives_9 : decode cL_keepAlives 9 = .ok (.astore_n 3, 1) := by decide +kernel
theorem dL_keepAlives_10 : decode cL_keepAlives 10 = .ok (.sipush (-7100), 3) := by decide +kernel
theorem dL_keepAlives_13 : decode cL_keepAlives 13 = .ok (.ireturn, 1) := by decide +kernel
theorem dL_keepAlives_14 : decode cL_keepAlives 14 = .ok (.iload_n 2, 1) := by decide +kernel
theorem dL_keepAlives_15 : decode cL_keepAlives 15 = .ok (.ireturn, 1) := by decide +kernel
abbrev rmL_keepAlives : Room := { frames := 8, cells := 1, slots := 6, locals := 133 }
theorem hdL_keepAlives : yL_keepAlives.cls ≠ "java/lang/invoke/MethodHandle" ∧ yL_keepAlives.cls ≠ "java/lang/invoke/VarHandle" ∧ (parseMethodDescriptor yL_keepAlives.desc).map (fun d => d.parameters.length) = some 2 := by decide +kernel
set_option maxHeartbeats 4000000 in
set_option maxRecDepth 20000 in
theorem mL_keepAlives (l : Launch) (hl : l.stackTraces = false) (G : xG) (ρ : Nm → Nat) (a1 : Nm) (p2 : Int32) (σ : PH) (Q : Int32 → PH → Prop) (h : wL_keepAlives a1 p2 σ Q) : xMet l yL_keepAlives (.codeWith yL_keepAlives cL_keepAlives 4 (some .int) [(0, 6, 9, 14)]) rmL_keepAlives G ρ σ [.ref (ρ a1), .int p2] (eI ρ Q) xNo := by
  refine xMet.ofW hl (by decide +kernel) (Nat.le_of_ble_eq_true rfl) (fun X hC hr hn htab h0 => ?_)
  have hC : xC G X "PlantServerLaw" cL_keepAlives 4 rmL_keepAlives := hC
  unfold wL_keepAlives at h
  refine xJ.loc (L' := [(0, .ref (ρ a1)), (1, .int p2)]) rfl ?_
  refine x_aload_n hC 0 rfl dL_keepAlives_0 ?_
  refine x_iload_n hC 1 rfl dL_keepAlives_1 ?_
  obtain ⟨k1, h⟩ := h
  refine x_callV (n0 := a1) (as := [.int p2]) (rest := []) hC (ci := 6) (r := (RX6, TX6, 9)) k1 rfl (fun l hl => m6_keepAlives l hl G ρ a1 p2 σ _ _ h) q621 q622 q623 q1 q624 ⟨rfl, hd6_keepAlives⟩ (by decide) ⟨(by decide), (by decide)⟩ (by first | exact Nat.le_of_ble_eq_true rfl | (simp [rv_cat]; done) | (simp (decide := true) [rv_cat, cat_ref, cat_int]; done)) rfl dL_keepAlives_2 (fun E σ2 hx => ?_) (fun v1 σ1 ρ1 hp1 hag1 => ?_)
  · have hE9 := hx.2
    have he := hE9
    have h := hx.1 he
    subst he
    refine x_catch hC [] [] (0, 6, 9, 14) htab (by intro z hz; simp at hz) (by decide) (by decide) q269 xcast_xIO (fun qx1 => ?_)
    refine xJ.nrm (k' := 1) (n' := 6) (pc' := 9) (st' := [.ref qx1]) rfl rfl rfl rfl ?_
    refine x_astore_n (L' := [(3, .ref qx1), (0, .ref (ρ a1)), (1, .int p2)]) hC dL_keepAlives_9 (by decide) (by first | rfl | simp (decide := true) [rv_cat, cat_ref, cat_int]) ?_
    refine x_sipush (v := (-7100)) hC dL_keepAlives_10 (by decide) ?_
    exact x_iret hC hr dL_keepAlives_13 (by decide) (by decide) ⟨rfl, _, rfl, h⟩
  · obtain ⟨e9, r1, e8, h⟩ := hp1
    rw [e8, e9]
    refine xJ.nrm (k' := 1) (n' := 6) (pc' := 5) (st' := [.int r1]) rfl rfl rfl rfl ?_
    refine x_istore_n (L' := [(2, .int r1), (0, .ref (ρ a1)), (1, .int p2)]) hC dL_keepAlives_5 (by decide) (by first | rfl | simp (decide := true) [rv_cat, cat_ref, cat_int]) ?_
    refine x_goto (tgt := 14) hC dL_keepAlives_6 (by decide) ?_
    refine x_iload_n hC 0 rfl dL_keepAlives_14 ?_
    exact x_iret hC hr dL_keepAlives_15 (by decide) (by decide) ⟨rfl, _, rfl, h⟩
/-! PlantServer$Subscription.placeOf -/
theorem dX4_placeOf_0 : decode cX4_placeOf 0 = .ok (.iconst 0, 1) := by decide +kernel
theorem dX4_placeOf_1 : decode cX4_placeOf 1 = .ok (.istore_n 2, 1) := by decide +kernel
theorem dX4_placeOf_2 : decode cX4_placeOf 2 = .ok (.iload_n 2, 1) := by decide +kernel
theorem dX4_placeOf_3 : decode cX4_placeOf 3 = .ok (.aload_n 0, 1) := by decide +kernel
theorem dX4_placeOf_4 : decode cX4_placeOf 4 = .ok (.getfield 31, 3) := by decide +kernel
theorem dX4_placeOf_7 : decode cX4_placeOf 7 = .ok (.if_icmp .ge 30, 3) := by decide +kernel
theorem dX4_placeOf_10 : decode cX4_placeOf 10 = .ok (.aload_n 0, 1) := by decide +kernel
theorem dX4_placeOf_11 : decode cX4_placeOf 11 = .ok (.getfield 19, 3) := by decide +kernel
theorem dX4_placeOf_14 : decode cX4_placeOf 14 = .ok (.iload_n 2, 1) := by decide +kernel
theorem dX4_placeOf_15 : decode cX4_placeOf 15 = .ok (.aaload, 1) := by decide +kernel
theorem dX4_placeOf_16 : decode cX4_placeOf 16 = .ok (.astore_n 3, 1) := by decide +kernel
theorem dX4_placeOf_17 : decode cX4_placeOf 17 = .ok (.aload_n 3, 1) := by decide +kernel
theorem dX4_placeOf_18 : decode cX4_placeOf 18 = .ok (.ifnull 13, 3) := by decide +kernel
theorem dX4_placeOf_21 : decode cX4_placeOf 21 = .ok (.aload_n 3, 1) := by decide +kernel
theorem dX4_placeOf_22 : decode cX4_placeOf 22 = .ok (.getfield 88, 3) := by decide +kernel
theorem dX4_placeOf_25 : decode cX4_placeOf 25 = .ok (.iload_n 1, 1) := by decide +kernel
theorem dX4_placeOf_26 : decode cX4_placeOf 26 = .ok (.if_icmp .ne 5, 3) := by decide +kernel
theorem dX4_placeOf_29 : decode cX4_placeOf 29 = .ok (.iload_n 2, 1) := by decide +kernel
theorem dX4_placeOf_30 : decode cX4_placeOf 30 = .ok (.ireturn, 1) := by decide +kernel
theorem dX4_placeOf_31 : decode cX4_placeOf 31 = .ok (.iinc 2 1, 3) := by decide +kernel
theorem dX4_placeOf_34 : decode cX4_placeOf 34 = .ok (.goto (-32), 3) := by decide +kernel
theorem dX4_placeOf_37 : decode cX4_placeOf 37 = .ok (.iconst (-1), 1) := by decide +kernel
theorem dX4_placeOf_38 : decode cX4_placeOf 38 = .ok (.ireturn, 1) := by decide +kernel
abbrev rm4_placeOf : Room := { frames := 0, cells := 0, slots := 0, locals := 0 }
theorem hd4_placeOf : yX4_placeOf.cls ≠ "java/lang/invoke/MethodHandle" ∧ yX4_placeOf.cls ≠ "java/lang/invoke/VarHandle" ∧ (parseMethodDescriptor yX4_placeOf.desc).map (fun d => d.parameters.length) = some 1 := by decide +kernel
set_option maxHeartbeats 4000000 in
set_option maxRecDepth 20000 in
theorem ml4_placeOf_2 {G : xG} {X : xX} (hC : xC G X "PlantServer$Subscription" cX4_placeOf 4 rm4_placeOf) (hr : xRt X (some .int)) (htab : xTab X []) (this : Nm) (p1 : Int32) {ρ : Nm → Nat} (h0 : xR0 X ρ) (k n : Nat) (hk1 : k ≤ 0) (hk2 : n ≤ 0) (K : Int32 → PH → Prop) (Q : Int32 → PH → Prop) (Xp : String → PH → Prop) : ∀ (f2 : Nat) (x2_2 : Int32) (τ2 : PH), l4_placeOf_2 this p1 K Q f2 x2_2 τ2 → (∀ (x2_2 : Int32) (τ2 : PH), K x2_2 τ2 → xJ G X (xT X (eI ρ Q) Xp G rm4_placeOf) 4 ρ τ2 k n 37 [(0, .ref (ρ this)), (1, .int p1), (2, .int x2_2)] []) → xJ G X (xT X (eI ρ Q) Xp G rm4_placeOf) 4 ρ τ2 k n 2 [(0, .ref (ρ this)), (1, .int p1), (2, .int x2_2)] [] := by
  intro f2
  induction f2 with
  | zero => intro x2_2 τ2 h hKK; unfold l4_placeOf_2 at h; exact h.elim
  | succ f2 ih =>
    intro x2_2 τ2 h hKK
    unfold l4_placeOf_2 at h
    refine x_iload_n hC 2 rfl dX4_placeOf_2 ?_
    refine x_aload_n hC 0 rfl dX4_placeOf_3 ?_
    obtain ⟨k1, h⟩ := h
    refine x_getI (n0 := this) hC (ci := 4) (T := TX4) (N := 14) (C := RX4) 9 k1 rfl rfl (by decide) rfl q219 dX4_placeOf_4 ?_
    refine x_icmp_ge (tgt := 37) hC dX4_placeOf_7 (by decide) (fun c1 => ?_) (fun c1 => ?_)
    · have h := h.1 c1
      exact hKK _ _ h
    · have h := h.2 c1
      refine x_aload_n hC 0 rfl dX4_placeOf_10 ?_
      refine x_getR (n0 := this) hC (ci := 4) (T := TX4) (N := 14) (C := RX4) 6 k1 rfl rfl (by decide) rfl q214 dX4_placeOf_11 ?_
      refine x_iload_n hC 2 rfl dX4_placeOf_14 ?_
      obtain ⟨m1, hm1, h⟩ := h
      rw [show rv ρ (hR τ2 this 6) = Value.ref (ρ m1) from by rw [hm1]; rfl]
      obtain ⟨k2, h⟩ := h
      obtain ⟨v1, h⟩ := h
      refine x_aald12 (a := m1) hC k2 v1 dX4_placeOf_15 ?_
      refine x_astore_nQ (o := hR τ2 m1 (Int32.toNatClampNeg x2_2)) (L' := [(3, rv ρ (hR τ2 m1 (Int32.toNatClampNeg x2_2))), (0, .ref (ρ this)), (1, .int p1), (2, .int x2_2)]) hC dX4_placeOf_16 (by decide) (by first | rfl | simp (decide := true) [rv_cat, cat_ref, cat_int]) ?_
      refine x_aload_nQ (o := hR τ2 m1 (Int32.toNatClampNeg x2_2)) hC 0 rfl dX4_placeOf_17 ?_
      refine x_ifnull (o := hR τ2 m1 (Int32.toNatClampNeg x2_2)) (tgt := 31) hC dX4_placeOf_18 (by decide) (fun c2 => ?_) (fun m2 c2 => ?_)
      · have h := h.1 c2
        rw [show rv ρ (hR τ2 m1 (Int32.toNatClampNeg x2_2)) = Value.null from by rw [c2]; rfl]
        refine x_iinc (v' := x2_2 + 1) (L' := [(2, .int (x2_2 + 1)), (3, .null), (0, .ref (ρ this)), (1, .int p1)]) hC 3 rfl dX4_placeOf_31 rfl (by decide) (by first | rfl | simp (decide := true) [rv_cat, cat_ref, cat_int]) ?_
        refine x_goto (tgt := 2) hC dX4_placeOf_34 (by decide) ?_
        refine xJ.sub (L' := [(0, .ref (ρ this)), (1, .int p1), (2, .int (x2_2 + 1))]) [2, 3, 0] rfl ?_
        exact ih _ _ h hKK
      · have h := h.2 m2 c2
        rw [show rv ρ (hR τ2 m1 (Int32.toNatClampNeg x2_2)) = Value.ref (ρ m2) from by rw [c2]; rfl]
        refine x_aload_n hC 0 rfl dX4_placeOf_21 ?_
        obtain ⟨k3, h⟩ := h
        refine x_getI (n0 := m2) hC (ci := 2) (T := TX2) (N := 5) (C := RX2) 3 k3 rfl rfl (by decide) rfl q571 dX4_placeOf_22 ?_
        refine x_iload_n hC 2 rfl dX4_placeOf_25 ?_
        refine x_icmp_ne (tgt := 31) hC dX4_placeOf_26 (by decide) (fun c3 => ?_) (fun c3 => ?_)
        · have h := h.1 c3
          refine x_iinc (v' := x2_2 + 1) (L' := [(2, .int (x2_2 + 1)), (3, .ref (ρ m2)), (0, .ref (ρ this)), (1, .int p1)]) hC 3 rfl dX4_placeOf_31 rfl (by decide) (by first | rfl | simp (decide := true) [rv_cat, cat_ref, cat_int]) ?_
          refine x_goto (tgt := 2) hC dX4_placeOf_34 (by decide) ?_
          refine xJ.sub (L' := [(0, .ref (ρ this)), (1, .int p1), (2, .int (x2_2 + 1))]) [2, 3, 0] rfl ?_
          exact ih _ _ h hKK
        · have h := h.2 c3
          refine x_iload_n hC 3 rfl dX4_placeOf_29 ?_
          exact x_iret hC hr dX4_placeOf_30 (show _ ≤ 0 by omega) (show _ ≤ 0 by omega) ⟨rfl, _, rfl, h⟩
set_option maxHeartbeats 4000000 in
set_option maxRecDepth 20000 in
theorem m4_placeOf (l : Launch) (hl : l.stackTraces = false) (G : xG) (ρ : Nm → Nat) (this : Nm) (p1 : Int32) (σ : PH) (Q : Int32 → PH → Prop) (h : w4_placeOf this p1 σ Q) : xMet l yX4_placeOf (.code yX4_placeOf cX4_placeOf 4 (some .int)) rm4_placeOf G ρ σ [.ref (ρ this), .int p1] (eI ρ Q) xNo := by
  refine xMet.of hl (by decide +kernel) (Nat.le_of_ble_eq_true rfl) (fun X hC hr hn htab h0 => ?_)
  have hC : xC G X "PlantServer$Subscription" cX4_placeOf 4 rm4_placeOf := hC
  unfold w4_placeOf at h
  refine xJ.loc (L' := [(0, .ref (ρ this)), (1, .int p1)]) rfl ?_
  refine x_iconst (v := 0) hC dX4_placeOf_0 (by decide) ?_
  refine x_istore_n (L' := [(2, .int 0), (0, .ref (ρ this)), (1, .int p1)]) hC dX4_placeOf_1 (by decide) (by first | rfl | simp (decide := true) [rv_cat, cat_ref, cat_int]) ?_
  refine xJ.sub (L' := [(0, .ref (ρ this)), (1, .int p1), (2, .int 0)]) [1, 2, 0] rfl ?_
  obtain ⟨f2, h⟩ := h
  refine ml4_placeOf_2 hC hr htab this p1 h0 (0) (0) (by decide) (by decide) _ Q _ f2 _ _ h (fun y1 τ1 h => ?_)
  refine x_iconst (v := (-1)) hC dX4_placeOf_37 (by decide) ?_
  exact x_iret hC hr dX4_placeOf_38 (by decide) (by decide) ⟨rfl, _, rfl, h⟩
/-! PlantServer$Subscription.find -/
theorem dX4_find_0 : decode cX4_find 0 = .ok (.aload_n 0, 1) := by decide +kernel
theorem dX4_find_1 : decode cX4_find 1 = .ok (.iload_n 1, 1) := by decide +kernel
theorem dX4_find_2 : decode cX4_find 2 = .ok (.invokevirtual 89, 3) := by decide +kernel
theorem dX4_find_5 : decode cX4_find 5 = .ok (.istore_n 2, 1) := by decide +kernel
theorem dX4_find_6 : decode cX4_find 6 = .ok (.iload_n 2, 1) := by decide +kernel
theorem dX4_find_7 : decode cX4_find 7 = .ok (.iconst (-1), 1) := by decide +kernel
theorem dX4_find_8 : decode cX4_find 8 = .ok (.if_icmp .ne 7, 3) := by decide +kernel
theorem dX4_find_11 : decode cX4_find 11 = .ok (.aconst_null, 1) := by decide +kernel
theorem dX4_find_12 : decode cX4_find 12 = .ok (.goto 9, 3) := by decide +kernel
theorem dX4_find_15 : decode cX4_find 15 = .ok (.aload_n 0, 1) := by decide +kernel
theorem dX4_find_16 : decode cX4_find 16 = .ok (.getfield 19, 3) := by decide +kernel
theorem dX4_find_19 : decode cX4_find 19 = .ok (.iload_n 2, 1) := by decide +kernel
theorem dX4_find_20 : decode cX4_find 20 = .ok (.aaload, 1) := by decide +kernel
theorem dX4_find_21 : decode cX4_find 21 = .ok (.areturn, 1) := by decide +kernel
abbrev rm4_find : Room := { frames := 1, cells := 0, slots := 0, locals := 23 }
theorem hd4_find : yX4_find.cls ≠ "java/lang/invoke/MethodHandle" ∧ yX4_find.cls ≠ "java/lang/invoke/VarHandle" ∧ (parseMethodDescriptor yX4_find.desc).map (fun d => d.parameters.length) = some 1 := by decide +kernel
set_option maxHeartbeats 4000000 in
set_option maxRecDepth 20000 in
theorem m4_find (l : Launch) (hl : l.stackTraces = false) (G : xG) (ρ : Nm → Nat) (this : Nm) (p1 : Int32) (σ : PH) (Q : Option Nm → PH → Prop) (h : w4_find this p1 σ Q) : xMet l yX4_find (.code yX4_find cX4_find 3 (some (.object "PlantServer$Message"))) rm4_find G ρ σ [.ref (ρ this), .int p1] (eR ρ Q) xNo := by
  refine xMet.of hl (by decide +kernel) (Nat.le_of_ble_eq_true rfl) (fun X hC hr hn htab h0 => ?_)
  have hC : xC G X "PlantServer$Subscription" cX4_find 3 rm4_find := hC
  unfold w4_find at h
  refine xJ.loc (L' := [(0, .ref (ρ this)), (1, .int p1)]) rfl ?_
  refine x_aload_n hC 0 rfl dX4_find_0 ?_
  refine x_iload_n hC 1 rfl dX4_find_1 ?_
  obtain ⟨k1, h⟩ := h
  refine x_callV (n0 := this) (as := [.int p1]) (rest := []) hC (ci := 4) (r := (RX4, TX4, 14)) k1 rfl (fun l hl => m4_placeOf l hl G ρ this p1 σ _ h) q636 q488 q489 q11 q490 ⟨rfl, hd4_placeOf⟩ (by decide) ⟨(by decide), (by decide)⟩ (by first | exact Nat.le_of_ble_eq_true rfl | (simp [rv_cat]; done) | (simp (decide := true) [rv_cat, cat_ref, cat_int]; done)) rfl dX4_find_2 (fun E σ9 hx => False.elim hx) (fun v1 σ1 ρ1 hp1 hag1 => ?_)
  obtain ⟨e9, r1, e8, h⟩ := hp1
  rw [e8, e9]
  refine xJ.nrm (k' := 0) (n' := 0) (pc' := 5) (st' := [.int r1]) rfl rfl rfl rfl ?_
  refine x_istore_n (L' := [(2, .int r1), (0, .ref (ρ this)), (1, .int p1)]) hC dX4_find_5 (by decide) (by first | rfl | simp (decide := true) [rv_cat, cat_ref, cat_int]) ?_
  refine x_iload_n hC 0 rfl dX4_find_6 ?_
  refine x_iconst (v := (-1)) hC dX4_find_7 (by decide) ?_
  refine x_icmp_ne (tgt := 15) hC dX4_find_8 (by decide) (fun c1 => ?_) (fun c1 => ?_)
  · have h := h.1 c1
    refine x_aload_n hC 1 rfl dX4_find_15 ?_
    have k2 : hK σ1 this = 5 := (hag1 this (by rw [k1]; decide)).1.trans k1
    refine x_getR (n0 := this) hC (ci := 4) (T := TX4) (N := 14) (C := RX4) 6 k2 rfl rfl (by decide) rfl q214 dX4_find_16 ?_
    refine x_iload_n hC 0 rfl dX4_find_19 ?_
    obtain ⟨m1, hm1, h⟩ := h
    rw [show rv ρ (hR σ1 this 6) = Value.ref (ρ m1) from by rw [hm1]; rfl]
    obtain ⟨k3, h⟩ := h
    obtain ⟨v2, h⟩ := h
    refine x_aald12 (a := m1) hC k3 v2 dX4_find_20 ?_
    refine xJ.stk (st' := [rv ρ (hR σ1 m1 (Int32.toNatClampNeg r1))]) rfl ?_
    exact x_aret (o := hR σ1 m1 (Int32.toNatClampNeg r1)) hC hr dX4_find_21 (by decide) (by decide) ⟨rfl, _, rfl, h⟩
  · have h := h.2 c1
    refine x_null hC dX4_find_11 ?_
    refine x_goto (tgt := 21) hC dX4_find_12 (by decide) ?_
    refine xJ.stk (st' := [rv ρ none]) rfl ?_
    exact x_aret (o := none) hC hr dX4_find_21 (by decide) (by decide) ⟨rfl, _, rfl, h⟩
/-! PlantServer.size -/
theorem dX6_size_0 : decode cX6_size 0 = .ok (.aload_n 0, 1) := by decide +kernel
theorem dX6_size_1 : decode cX6_size 1 = .ok (.iload_n 1, 1) := by decide +kernel
theorem dX6_size_2 : decode cX6_size 2 = .ok (.invokevirtual 73, 3) := by decide +kernel
theorem dX6_size_5 : decode cX6_size 5 = .ok (.iload_n 2, 1) := by decide +kernel
theorem dX6_size_6 : decode cX6_size 6 = .ok (.invokevirtual 145, 3) := by decide +kernel
theorem dX6_size_9 : decode cX6_size 9 = .ok (.astore_n 3, 1) := by decide +kernel
theorem dX6_size_10 : decode cX6_size 10 = .ok (.aload_n 3, 1) := by decide +kernel
theorem dX6_size_11 : decode cX6_size 11 = .ok (.ifnonnull 7, 3) := by decide +kernel
theorem dX6_size_14 : decode cX6_size 14 = .ok (.iconst (-1), 1) := by decide +kernel
theorem dX6_size_15 : decode cX6_size 15 = .ok (.goto 7, 3) := by decide +kernel
theorem dX6_size_18 : decode cX6_size 18 = .ok (.aload_n 3, 1) := by decide +kernel
theorem dX6_size_19 : decode cX6_size 19 = .ok (.getfield 149, 3) := by decide +kernel
theorem dX6_size_22 : decode cX6_size 22 = .ok (.ireturn, 1) := by decide +kernel
abbrev rm6_size : Room := { frames := 7, cells := 1, slots := 6, locals := 112 }
theorem hd6_size : yX6_size.cls ≠ "java/lang/invoke/MethodHandle" ∧ yX6_size.cls ≠ "java/lang/invoke/VarHandle" ∧ (parseMethodDescriptor yX6_size.desc).map (fun d => d.parameters.length) = some 2 := by decide +kernel
set_option maxHeartbeats 4000000 in
set_option maxRecDepth 20000 in
theorem m6_size (l : Launch) (hl : l.stackTraces = false) (G : xG) (ρ : Nm → Nat) (this : Nm) (p1 : Int32) (p2 : Int32) (σ : PH) (Q : Int32 → PH → Prop) (Xp : String → PH → Prop) (h : w6_size this p1 p2 σ Q Xp) : xMet l yX6_size (.code yX6_size cX6_size 4 (some .int)) rm6_size G ρ σ [.ref (ρ this), .int p1, .int p2] (eI ρ Q) Xp := by
  refine xMet.of hl (by decide +kernel) (Nat.le_of_ble_eq_true rfl) (fun X hC hr hn htab h0 => ?_)
  have hC : xC G X "PlantServer" cX6_size 4 rm6_size := hC
  unfold w6_size at h
  refine xJ.loc (L' := [(0, .ref (ρ this)), (1, .int p1), (2, .int p2)]) rfl ?_
  refine x_aload_n hC 0 rfl dX6_size_0 ?_
  refine x_iload_n hC 1 rfl dX6_size_1 ?_
  obtain ⟨k1, h⟩ := h
  refine x_callV (n0 := this) (as := [.int p1]) (rest := []) hC (ci := 6) (r := (RX6, TX6, 9)) k1 rfl (fun l hl => m6_openSubscription l hl G ρ this p1 σ _ Xp h) q274 q276 s2 q1 q277 ⟨rfl, hd6_openSubscription⟩ (by decide) ⟨(by decide), (by decide)⟩ (by first | exact Nat.le_of_ble_eq_true rfl | (simp [rv_cat]; done) | (simp (decide := true) [rv_cat, cat_ref, cat_int]; done)) rfl dX6_size_2 (fun E σ9 hx => x_out hC h0 htab (by decide) (by decide) hx) (fun v1 σ1 ρ1 hp1 hag1 => ?_)
  obtain ⟨e9, r1, e8, h⟩ := hp1
  rw [e8, e9]
  refine xJ.nrm (k' := 1) (n' := 6) (pc' := 5) (st' := [rv ρ r1]) rfl rfl rfl rfl ?_
  refine x_iload_n hC 2 rfl dX6_size_5 ?_
  obtain ⟨m1, hm1, h⟩ := h
  rw [show rv ρ r1 = Value.ref (ρ m1) from by rw [hm1]; rfl]
  obtain ⟨k2, h⟩ := h
  refine x_callV (n0 := m1) (as := [.int p2]) (rest := []) hC (ci := 4) (r := (RX4, TX4, 14)) k2 rfl (fun l hl => m4_find l hl G ρ m1 p2 σ1 _ h) q632 q633 q634 q11 q635 ⟨rfl, hd4_find⟩ (by decide) ⟨(by decide), (by decide)⟩ (by first | exact Nat.le_of_ble_eq_true rfl | (simp [rv_cat]; done) | (simp (decide := true) [rv_cat, cat_ref, cat_int]; done)) rfl dX6_size_6 (fun E σ9 hx => False.elim hx) (fun v2 σ2 ρ2 hp2 hag2 => ?_)
  obtain ⟨e9, r2, e8, h⟩ := hp2
  rw [e8, e9]
  refine xJ.nrm (k' := 1) (n' := 6) (pc' := 9) (st' := [rv ρ r2]) rfl rfl rfl rfl ?_
  refine x_astore_nQ (o := r2) (L' := [(3, rv ρ r2), (0, .ref (ρ this)), (1, .int p1), (2, .int p2)]) hC dX6_size_9 (by decide) (by first | rfl | simp (decide := true) [rv_cat, cat_ref, cat_int]) ?_
  refine x_aload_nQ (o := r2) hC 0 rfl dX6_size_10 ?_
  refine x_ifnonnull (o := r2) (tgt := 18) hC dX6_size_11 (by decide) (fun m2 c1 => ?_) (fun c1 => ?_)
  · have h := h.2 m2 c1
    rw [show rv ρ r2 = Value.ref (ρ m2) from by rw [c1]; rfl]
    refine x_aload_n hC 0 rfl dX6_size_18 ?_
    obtain ⟨k3, h⟩ := h
    refine x_getI (n0 := m2) hC (ci := 2) (T := TX2) (N := 5) (C := RX2) 4 k3 rfl rfl (by decide) rfl q574 dX6_size_19 ?_
    exact x_iret hC hr dX6_size_22 (by decide) (by decide) ⟨rfl, _, rfl, h⟩
  · have h := h.1 c1
    rw [show rv ρ r2 = Value.null from by rw [c1]; rfl]
    refine x_iconst (v := (-1)) hC dX6_size_14 (by decide) ?_
    refine x_goto (tgt := 22) hC dX6_size_15 (by decide) ?_
    exact x_iret hC hr dX6_size_22 (by decide) (by decide) ⟨rfl, _, rfl, h⟩
/-! PlantServerLaw.size -/
theorem dL_size_0 : decode cL_size 0 = .ok (.aload_n 0, 1) := by decide +kernel
theorem dL_size_1 : decode cL_size 1 = .ok (.iload_n 1, 1) := by decide +kernel
theorem dL_size_2 : decode cL_size 2 = .ok (.iload_n 2, 1) := by decide +kernel
theorem dL_size_3 : decode cL_size 3 = .ok (.invokevirtual 51, 3) := by decide +kernel
theorem dL_size_6 : decode cL_size 6 = .ok (.istore_n 3, 1) := by decide +kernel
theorem dL_size_7 : decode cL_size 7 = .ok (.goto 9, 3) := by decide +kernel
theorem dL_size_10 : decode cL_size 10 = .ok (.astore 4, 2) := by decide +kernel
theorem dL_size_12 : decode cL_size 12 = .ok (.sipush (-7100), 3) := by decide +kernel
theorem dL_size_15 : decode cL_size 15 = .ok (.ireturn, 1) := by decide +kernel
theorem dL_size_16 : decode cL_size 16 = .ok (.iload_n 3, 1) := by decide +kernel
theorem dL_size_17 : decode cL_size 17 = .ok (.ireturn, 1) := by decide +kernel
abbrev rmL_size : Room := { frames := 8, cells := 1, slots := 6, locals := 135 }
theorem hdL_size : yL_size.cls ≠ "java/lang/invoke/MethodHandle" ∧ yL_size.cls ≠ "java/lang/invoke/VarHandle" ∧ (parseMethodDescriptor yL_size.desc).map (fun d => d.parameters.length) = some 3 := by decide +kernel
set_option maxHeartbeats 4000000 in
set_option maxRecDepth 20000 in
theorem mL_size (l : Launch) (hl : l.stackTraces = false) (G : xG) (ρ : Nm → Nat) (a1 : Nm) (p2 : Int32) (p3 : Int32) (σ : PH) (Q : Int32 → PH → Prop) (h : wL_size a1 p2 p3 σ Q) : xMet l yL_size (.codeWith yL_size cL_size 5 (some .int) [(0, 7, 10, 14)]) rmL_size G ρ σ [.ref (ρ a1), .int p2, .int p3] (eI ρ Q) xNo := by
  refine xMet.ofW hl (by decide +kernel) (Nat.le_of_ble_eq_true rfl) (fun X hC hr hn htab h0 => ?_)
  have hC : xC G X "PlantServerLaw" cL_size 5 rmL_size := hC
  unfold wL_size at h
  refine xJ.loc (L' := [(0, .ref (ρ a1)), (1, .int p2), (2, .int p3)]) rfl ?_
  refine x_aload_n hC 0 rfl dL_size_0 ?_
  refine x_iload_n hC 1 rfl dL_size_1 ?_
  refine x_iload_n hC 2 rfl dL_size_2 ?_
  obtain ⟨k1, h⟩ := h
  refine x_callV (n0 := a1) (as := [.int p2, .int p3]) (rest := []) hC (ci := 6) (r := (RX6, TX6, 9)) k1 rfl (fun l hl => m6_size l hl G ρ a1 p2 p3 σ _ _ h) q628 q629 q630 q1 q631 ⟨rfl, hd6_size⟩ (by decide) ⟨(by decide), (by decide)⟩ (by first | exact Nat.le_of_ble_eq_true rfl | (simp [rv_cat]; done) | (simp (decide := true) [rv_cat, cat_ref, cat_int]; done)) rfl dL_size_3 (fun E σ2 hx => ?_) (fun v1 σ1 ρ1 hp1 hag1 => ?_)
  · have hE9 := hx.2
    have he := hE9
    have h := hx.1 he
    subst he
    refine x_catch hC [] [] (0, 7, 10, 14) htab (by intro z hz; simp at hz) (by decide) (by decide) q269 xcast_xIO (fun qx1 => ?_)
    refine xJ.nrm (k' := 1) (n' := 6) (pc' := 10) (st' := [.ref qx1]) rfl rfl rfl rfl ?_
    refine x_astore (L' := [(4, .ref qx1), (0, .ref (ρ a1)), (1, .int p2), (2, .int p3)]) hC dL_size_10 (by decide) (by first | rfl | simp (decide := true) [rv_cat, cat_ref, cat_int]) ?_
    refine x_sipush (v := (-7100)) hC dL_size_12 (by decide) ?_
    exact x_iret hC hr dL_size_15 (by decide) (by decide) ⟨rfl, _, rfl, h⟩
  · obtain ⟨e9, r1, e8, h⟩ := hp1
    rw [e8, e9]
    refine xJ.nrm (k' := 1) (n' := 6) (pc' := 6) (st' := [.int r1]) rfl rfl rfl rfl ?_
    refine x_istore_n (L' := [(3, .int r1), (0, .ref (ρ a1)), (1, .int p2), (2, .int p3)]) hC dL_size_6 (by decide) (by first | rfl | simp (decide := true) [rv_cat, cat_ref, cat_int]) ?_
    refine x_goto (tgt := 16) hC dL_size_7 (by decide) ?_
    refine x_iload_n hC 0 rfl dL_size_16 ?_
    exact x_iret hC hr dL_size_17 (by decide) (by decide) ⟨rfl, _, rfl, h⟩
